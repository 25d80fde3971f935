theorem dX9_isTheirs_68 : decode cX9_isTheirs 68 = .ok (.laload, 1) := by decide +kernel
theorem dX9_isTheirs_69 : decode cX9_isTheirs 69 = .ok (.lmul, 1) := by decide +kernel
theorem dX9_isTheirs_70 : decode cX9_isTheirs 70 = .ok (.ladd, 1) := by decide +kernel
theorem dX9_isTheirs_71 : decode cX9_isTheirs 71 = .ok (.lstore 8, 2) := by decide +kernel
theorem dX9_isTheirs_73 : decode cX9_isTheirs 73 = .ok (.aload_n 0, 1) := by decide +kernel
theorem dX9_isTheirs_74 : decode cX9_isTheirs 74 = .ok (.getfield 42, 3) := by decide +kernel
theorem dX9_isTheirs_77 : decode cX9_isTheirs 77 = .ok (.bipush 30, 2) := by decide +kernel
theorem dX9_isTheirs_79 : decode cX9_isTheirs 79 = .ok (.iload_n 1, 1) := by decide +kernel
theorem dX9_isTheirs_80 : decode cX9_isTheirs 80 = .ok (.imul, 1) := by decide +kernel
theorem dX9_isTheirs_81 : decode cX9_isTheirs 81 = .ok (.iload_n 3, 1) := by decide +kernel
theorem dX9_isTheirs_82 : decode cX9_isTheirs 82 = .ok (.iadd, 1) := by decide +kernel
theorem dX9_isTheirs_83 : decode cX9_isTheirs 83 = .ok (.laload, 1) := by decide +kernel
theorem dX9_isTheirs_84 : decode cX9_isTheirs 84 = .ok (.aload_n 0, 1) := by decide +kernel
theorem dX9_isTheirs_85 : decode cX9_isTheirs 85 = .ok (.getfield 42, 3) := by decide +kernel
theorem dX9_isTheirs_88 : decode cX9_isTheirs 88 = .ok (.bipush 30, 2) := by decide +kernel
theorem dX9_isTheirs_90 : decode cX9_isTheirs 90 = .ok (.iload_n 2, 1) := by decide +kernel
theorem dX9_isTheirs_91 : decode cX9_isTheirs 91 = .ok (.imul, 1) := by decide +kernel
theorem dX9_isTheirs_92 : decode cX9_isTheirs 92 = .ok (.iload_n 3, 1) := by decide +kernel
theorem dX9_isTheirs_93 : decode cX9_isTheirs 93 = .ok (.iadd, 1) := by decide +kernel
theorem dX9_isTheirs_94 : decode cX9_isTheirs 94 = .ok (.laload, 1) := by decide +kernel
theorem dX9_isTheirs_95 : decode cX9_isTheirs 95 = .ok (.lmul, 1) := by decide +kernel
theorem dX9_isTheirs_96 : decode cX9_isTheirs 96 = .ok (.lstore 10, 2) := by decide +kernel
theorem dX9_isTheirs_98 : decode cX9_isTheirs 98 = .ok (.ldc2_w 167, 3) := by decide +kernel
theorem dX9_isTheirs_101 : decode cX9_isTheirs 101 = .ok (.lload 8, 2) := by decide +kernel
theorem dX9_isTheirs_103 : decode cX9_isTheirs 103 = .ok (.lmul, 1) := by decide +kernel
theorem dX9_isTheirs_104 : decode cX9_isTheirs 104 = .ok (.aload_n 0, 1) := by decide +kernel
theorem dX9_isTheirs_105 : decode cX9_isTheirs 105 = .ok (.getfield 122, 3) := by decide +kernel
theorem dX9_isTheirs_108 : decode cX9_isTheirs 108 = .ok (.i2l, 1) := by decide +kernel
theorem dX9_isTheirs_109 : decode cX9_isTheirs 109 = .ok (.lload 10, 2) := by decide +kernel
theorem dX9_isTheirs_111 : decode cX9_isTheirs 111 = .ok (.lmul, 1) := by decide +kernel
theorem dX9_isTheirs_112 : decode cX9_isTheirs 112 = .ok (.lcmp, 1) := by decide +kernel
theorem dX9_isTheirs_113 : decode cX9_isTheirs 113 = .ok (.ifCond .ge 5, 3) := by decide +kernel
theorem dX9_isTheirs_116 : decode cX9_isTheirs 116 = .ok (.iconst 0, 1) := by decide +kernel
theorem dX9_isTheirs_117 : decode cX9_isTheirs 117 = .ok (.ireturn, 1) := by decide +kernel
theorem dX9_isTheirs_118 : decode cX9_isTheirs 118 = .ok (.iconst 0, 1) := by decide +kernel
theorem dX9_isTheirs_119 : decode cX9_isTheirs 119 = .ok (.istore 12, 2) := by decide +kernel
theorem dX9_isTheirs_121 : decode cX9_isTheirs 121 = .ok (.iload 12, 2) := by decide +kernel
theorem dX9_isTheirs_123 : decode cX9_isTheirs 123 = .ok (.aload_n 0, 1) := by decide +kernel
theorem dX9_isTheirs_124 : decode cX9_isTheirs 124 = .ok (.getfield 116, 3) := by decide +kernel
theorem dX9_isTheirs_127 : decode cX9_isTheirs 127 = .ok (.if_icmp .ge 66, 3) := by decide +kernel
theorem dX9_isTheirs_130 : decode cX9_isTheirs 130 = .ok (.iload 12, 2) := by decide +kernel
theorem dX9_isTheirs_132 : decode cX9_isTheirs 132 = .ok (.iload_n 1, 1) := by decide +kernel
theorem dX9_isTheirs_133 : decode cX9_isTheirs 133 = .ok (.if_icmp .eq 54, 3) := by decide +kernel
theorem dX9_isTheirs_136 : decode cX9_isTheirs 136 = .ok (.iload 12, 2) := by decide +kernel
theorem dX9_isTheirs_138 : decode cX9_isTheirs 138 = .ok (.iload_n 2, 1) := by decide +kernel
theorem dX9_isTheirs_139 : decode cX9_isTheirs 139 = .ok (.if_icmp .eq 48, 3) := by decide +kernel
theorem dX9_isTheirs_142 : decode cX9_isTheirs 142 = .ok (.aload_n 0, 1) := by decide +kernel
theorem dX9_isTheirs_143 : decode cX9_isTheirs 143 = .ok (.getfield 35, 3) := by decide +kernel
theorem dX9_isTheirs_146 : decode cX9_isTheirs 146 = .ok (.iload 12, 2) := by decide +kernel
theorem dX9_isTheirs_148 : decode cX9_isTheirs 148 = .ok (.iaload, 1) := by decide +kernel
theorem dX9_isTheirs_149 : decode cX9_isTheirs 149 = .ok (.i2l, 1) := by decide +kernel
theorem dX9_isTheirs_150 : decode cX9_isTheirs 150 = .ok (.aload_n 0, 1) := by decide +kernel
theorem dX9_isTheirs_151 : decode cX9_isTheirs 151 = .ok (.getfield 38, 3) := by decide +kernel
theorem dX9_isTheirs_154 : decode cX9_isTheirs 154 = .ok (.bipush 30, 2) := by decide +kernel
theorem dX9_isTheirs_156 : decode cX9_isTheirs 156 = .ok (.iload 12, 2) := by decide +kernel
theorem dX9_isTheirs_158 : decode cX9_isTheirs 158 = .ok (.imul, 1) := by decide +kernel
theorem dX9_isTheirs_159 : decode cX9_isTheirs 159 = .ok (.iload_n 3, 1) := by decide +kernel
theorem dX9_isTheirs_160 : decode cX9_isTheirs 160 = .ok (.iadd, 1) := by decide +kernel
theorem dX9_isTheirs_161 : decode cX9_isTheirs 161 = .ok (.laload, 1) := by decide +kernel
theorem dX9_isTheirs_162 : decode cX9_isTheirs 162 = .ok (.lmul, 1) := by decide +kernel
theorem dX9_isTheirs_163 : decode cX9_isTheirs 163 = .ok (.lload 10, 2) := by decide +kernel
theorem dX9_isTheirs_165 : decode cX9_isTheirs 165 = .ok (.lmul, 1) := by decide +kernel
theorem dX9_isTheirs_166 : decode cX9_isTheirs 166 = .ok (.lload 8, 2) := by decide +kernel
theorem dX9_isTheirs_168 : decode cX9_isTheirs 168 = .ok (.aload_n 0, 1) := by decide +kernel
theorem dX9_isTheirs_169 : decode cX9_isTheirs 169 = .ok (.getfield 42, 3) := by decide +kernel
theorem dX9_isTheirs_172 : decode cX9_isTheirs 172 = .ok (.bipush 30, 2) := by decide +kernel
theorem dX9_isTheirs_174 : decode cX9_isTheirs 174 = .ok (.iload 12, 2) := by decide +kernel
theorem dX9_isTheirs_176 : decode cX9_isTheirs 176 = .ok (.imul, 1) := by decide +kernel
theorem dX9_isTheirs_177 : decode cX9_isTheirs 177 = .ok (.iload_n 3, 1) := by decide +kernel
theorem dX9_isTheirs_178 : decode cX9_isTheirs 178 = .ok (.iadd, 1) := by decide +kernel
theorem dX9_isTheirs_179 : decode cX9_isTheirs 179 = .ok (.laload, 1) := by decide +kernel
theorem dX9_isTheirs_180 : decode cX9_isTheirs 180 = .ok (.lmul, 1) := by decide +kernel
theorem dX9_isTheirs_181 : decode cX9_isTheirs 181 = .ok (.lcmp, 1) := by decide +kernel
theorem dX9_isTheirs_182 : decode cX9_isTheirs 182 = .ok (.ifCond .lt 5, 3) := by decide +kernel
theorem dX9_isTheirs_185 : decode cX9_isTheirs 185 = .ok (.iconst 0, 1) := by decide +kernel
theorem dX9_isTheirs_186 : decode cX9_isTheirs 186 = .ok (.ireturn, 1) := by decide +kernel
theorem dX9_isTheirs_187 : decode cX9_isTheirs 187 = .ok (.iinc 12 1, 3) := by decide +kernel
theorem dX9_isTheirs_190 : decode cX9_isTheirs 190 = .ok (.goto (-69), 3) := by decide +kernel
theorem dX9_isTheirs_193 : decode cX9_isTheirs 193 = .ok (.iconst 1, 1) := by decide +kernel
theorem dX9_isTheirs_194 : decode cX9_isTheirs 194 = .ok (.ireturn, 1) := by decide +kernel
set_option maxRecDepth 20000 in
theorem ggX9_together_X9_isBell : GoodIn wsX9_together wsX9_isBell := goodIn_r _ [5, 6, 56, 57, 58, 59, 60, 61, 62, 63, 64, 65, 66, 67, 68, 69, 70, 71, 72, 73, 74, 75, 76, 77, 78, 79, 80, 81, 82, 83, 84, 85, 86, 87] (by decide +kernel) (by decide +kernel)
set_option maxRecDepth 20000 in
theorem gX9_together_X9_isBell : GoodIn wsX9_together (wsV RX9 145 RX9 yX9_isBell wsX9_isBell) := goodIn_app (goodIn_of _ (by decide +kernel)) ggX9_together_X9_isBell
set_option maxRecDepth 20000 in
theorem ggX9_together_X9_isWind : GoodIn wsX9_together wsX9_isWind := goodIn_r _ [9, 10, 11, 4, 12] (by decide +kernel) (by decide +kernel)
set_option maxRecDepth 20000 in
theorem gX9_together_X9_isWind : GoodIn wsX9_together (va_wsS RX9 169 yX9_isWind wsX9_isWind) := goodIn_app (goodIn_of _ (by decide +kernel)) ggX9_together_X9_isWind
set_option maxRecDepth 20000 in
theorem ggX9_together_X9_layLoud : GoodIn wsX9_together wsX9_layLoud := goodIn_r _ [16, 6, 17, 18, 19, 4, 20, 21, 22, 23, 24, 25, 26, 27, 28, 29, 30, 31, 32, 33, 34, 35, 36, 37, 38, 39, 40, 41, 42, 43, 44, 45, 46, 47, 48, 49, 56, 57, 58, 59, 60, 61, 62, 63, 64, 65, 66, 67, 68, 69, 70, 71, 72, 73, 74, 75, 76, 77, 78, 79, 80, 81, 82, 83, 84, 85, 86, 87] (by decide +kernel) (by decide +kernel)
set_option maxRecDepth 20000 in
theorem gX9_together_X9_layLoud : GoodIn wsX9_together (wsV RX9 197 RX9 yX9_layLoud wsX9_layLoud) := goodIn_app (goodIn_of _ (by decide +kernel)) ggX9_together_X9_layLoud
set_option maxRecDepth 20000 in
theorem ggX9_together_X9_all : GoodIn wsX9_together wsX9_all := goodIn_r _ [28, 29, 30, 56, 57, 58, 59, 60, 61, 62, 63, 64, 65, 66, 67, 68, 69, 70, 71, 72, 73, 74, 75, 76, 77, 78, 79, 80, 81, 82, 83, 84, 85, 86, 87] (by decide +kernel) (by decide +kernel)
set_option maxRecDepth 20000 in
theorem gX9_together_X9_all : GoodIn wsX9_together (wsV RX9 85 RX9 yX9_all wsX9_all) := goodIn_app (goodIn_of _ (by decide +kernel)) ggX9_together_X9_all
set_option maxRecDepth 20000 in
theorem ggX9_together_X9_isTheirs : GoodIn wsX9_together wsX9_isTheirs := goodIn_r _ [53, 54, 21, 23, 40, 55, 6, 56, 57, 58, 59, 60, 61, 62, 63, 64, 65, 66, 67, 68, 69, 70, 71, 72, 73, 74, 75, 76, 77, 78, 79, 80, 81, 82, 83, 84, 85, 86, 87] (by decide +kernel) (by decide +kernel)
set_option maxRecDepth 20000 in
theorem gX9_together_X9_isTheirs : GoodIn wsX9_together (wsV RX9 222 RX9 yX9_isTheirs wsX9_isTheirs) := goodIn_app (goodIn_of _ (by decide +kernel)) ggX9_together_X9_isTheirs
theorem dX9_together_0 : decode cX9_together 0 = .ok (.aload_n 0, 1) := by decide +kernel
theorem dX9_together_1 : decode cX9_together 1 = .ok (.iload_n 1, 1) := by decide +kernel
theorem dX9_together_2 : decode cX9_together 2 = .ok (.invokevirtual 145, 3) := by decide +kernel
theorem dX9_together_5 : decode cX9_together 5 = .ok (.ifCond .eq 16, 3) := by decide +kernel
theorem dX9_together_8 : decode cX9_together 8 = .ok (.aload_n 0, 1) := by decide +kernel
theorem dX9_together_9 : decode cX9_together 9 = .ok (.iload_n 2, 1) := by decide +kernel
theorem dX9_together_10 : decode cX9_together 10 = .ok (.invokevirtual 145, 3) := by decide +kernel
theorem dX9_together_13 : decode cX9_together 13 = .ok (.ifCond .eq 8, 3) := by decide +kernel
theorem dX9_together_16 : decode cX9_together 16 = .ok (.iload_n 1, 1) := by decide +kernel
theorem dX9_together_17 : decode cX9_together 17 = .ok (.iload_n 2, 1) := by decide +kernel
theorem dX9_together_18 : decode cX9_together 18 = .ok (.if_icmp .ne 5, 3) := by decide +kernel
theorem dX9_together_21 : decode cX9_together 21 = .ok (.iconst (-1), 1) := by decide +kernel
theorem dX9_together_22 : decode cX9_together 22 = .ok (.ireturn, 1) := by decide +kernel
theorem dX9_together_23 : decode cX9_together 23 = .ok (.iload_n 3, 1) := by decide +kernel
theorem dX9_together_24 : decode cX9_together 24 = .ok (.invokestatic 169, 3) := by decide +kernel
theorem dX9_together_27 : decode cX9_together 27 = .ok (.ifCond .ne 6, 3) := by decide +kernel
theorem dX9_together_30 : decode cX9_together 30 = .ok (.bipush (-2), 2) := by decide +kernel
theorem dX9_together_32 : decode cX9_together 32 = .ok (.ireturn, 1) := by decide +kernel
theorem dX9_together_33 : decode cX9_together 33 = .ok (.aload_n 0, 1) := by decide +kernel
theorem dX9_together_34 : decode cX9_together 34 = .ok (.iload_n 3, 1) := by decide +kernel
theorem dX9_together_35 : decode cX9_together 35 = .ok (.invokevirtual 197, 3) := by decide +kernel
theorem dX9_together_38 : decode cX9_together 38 = .ok (.iconst 0, 1) := by decide +kernel
theorem dX9_together_39 : decode cX9_together 39 = .ok (.istore 4, 2) := by decide +kernel
theorem dX9_together_41 : decode cX9_together 41 = .ok (.iconst 0, 1) := by decide +kernel
theorem dX9_together_42 : decode cX9_together 42 = .ok (.istore 5, 2) := by decide +kernel
theorem dX9_together_44 : decode cX9_together 44 = .ok (.iload 5, 2) := by decide +kernel
theorem dX9_together_46 : decode cX9_together 46 = .ok (.aload_n 0, 1) := by decide +kernel
theorem dX9_together_47 : decode cX9_together 47 = .ok (.invokevirtual 85, 3) := by decide +kernel
theorem dX9_together_50 : decode cX9_together 50 = .ok (.if_icmp .ge 33, 3) := by decide +kernel
theorem dX9_together_53 : decode cX9_together 53 = .ok (.iload 4, 2) := by decide +kernel
theorem dX9_together_55 : decode cX9_together 55 = .ok (.aload_n 0, 1) := by decide +kernel
theorem dX9_together_56 : decode cX9_together 56 = .ok (.iload_n 1, 1) := by decide +kernel
theorem dX9_together_57 : decode cX9_together 57 = .ok (.iload_n 2, 1) := by decide +kernel
theorem dX9_together_58 : decode cX9_together 58 = .ok (.iload 5, 2) := by decide +kernel
theorem dX9_together_60 : decode cX9_together 60 = .ok (.invokevirtual 222, 3) := by decide +kernel
theorem dX9_together_63 : decode cX9_together 63 = .ok (.ifCond .eq 10, 3) := by decide +kernel
theorem dX9_together_66 : decode cX9_together 66 = .ok (.iconst 1, 1) := by decide +kernel
theorem dX9_together_67 : decode cX9_together 67 = .ok (.iload 5, 2) := by decide +kernel
theorem dX9_together_69 : decode cX9_together 69 = .ok (.ishl, 1) := by decide +kernel
theorem dX9_together_70 : decode cX9_together 70 = .ok (.goto 4, 3) := by decide +kernel
theorem dX9_together_73 : decode cX9_together 73 = .ok (.iconst 0, 1) := by decide +kernel
theorem dX9_together_74 : decode cX9_together 74 = .ok (.ior, 1) := by decide +kernel
theorem dX9_together_75 : decode cX9_together 75 = .ok (.istore 4, 2) := by decide +kernel
theorem dX9_together_77 : decode cX9_together 77 = .ok (.iinc 5 1, 3) := by decide +kernel
theorem dX9_together_80 : decode cX9_together 80 = .ok (.goto (-36), 3) := by decide +kernel
theorem dX9_together_83 : decode cX9_together 83 = .ok (.iload 4, 2) := by decide +kernel
theorem dX9_together_85 : decode cX9_together 85 = .ok (.ireturn, 1) := by decide +kernel
set_option maxRecDepth 20000 in
theorem ggX9_ownTithes_X9_all : GoodIn wsX9_ownTithes wsX9_all := goodIn_r _ [5, 6, 7, 36, 37, 38, 39, 40, 41, 42, 43, 44, 45, 46, 47, 48, 49, 50, 51, 52, 53, 54, 55, 56, 57, 58, 59, 60, 61, 62, 63, 64, 65, 66, 67] (by decide +kernel) (by decide +kernel)
set_option maxRecDepth 20000 in
theorem gX9_ownTithes_X9_all : GoodIn wsX9_ownTithes (wsV RX9 85 RX9 yX9_all wsX9_all) := goodIn_app (goodIn_of _ (by decide +kernel)) ggX9_ownTithes_X9_all
set_option maxRecDepth 20000 in
theorem ggX9_ownTithes_X9_whoseBy : GoodIn wsX9_ownTithes wsX9_whoseBy := goodIn_r _ [11, 12, 13, 14, 15, 4, 16, 17, 18, 19, 20, 21, 22, 23, 24, 25, 26, 27, 28, 29, 30, 36, 37, 38, 39, 40, 41, 42, 43, 44, 45, 46, 47, 48, 49, 50, 51, 52, 53, 54, 55, 56, 57, 58, 59, 60, 61, 62, 63, 64, 65, 66, 67] (by decide +kernel) (by decide +kernel)
set_option maxRecDepth 20000 in
theorem gX9_ownTithes_X9_whoseBy : GoodIn wsX9_ownTithes (wsV RX9 201 RX9 yX9_whoseBy wsX9_whoseBy) := goodIn_app (goodIn_of _ (by decide +kernel)) ggX9_ownTithes_X9_whoseBy
set_option maxRecDepth 20000 in
theorem ggX9_ownTithes_X9_tithe : GoodIn wsX9_ownTithes wsX9_tithe := goodIn_r _ [34, 35, 36, 37, 38, 39, 40, 41, 42, 43, 44, 45, 46, 47, 48, 49, 50, 51, 52, 53, 54, 55, 56, 57, 58, 59, 60, 61, 62, 63, 64, 65, 66, 67] (by decide +kernel) (by decide +kernel)
set_option maxRecDepth 20000 in
theorem gX9_ownTithes_X9_tithe : GoodIn wsX9_ownTithes (wsV RX9 136 RX9 yX9_tithe wsX9_tithe) := goodIn_app (goodIn_of _ (by decide +kernel)) ggX9_ownTithes_X9_tithe
theorem dX9_ownTithes_0 : decode cX9_ownTithes 0 = .ok (.iconst 0, 1) := by decide +kernel
theorem dX9_ownTithes_1 : decode cX9_ownTithes 1 = .ok (.istore_n 2, 1) := by decide +kernel
theorem dX9_ownTithes_2 : decode cX9_ownTithes 2 = .ok (.iconst 0, 1) := by decide +kernel
theorem dX9_ownTithes_3 : decode cX9_ownTithes 3 = .ok (.istore_n 3, 1) := by decide +kernel
theorem dX9_ownTithes_4 : decode cX9_ownTithes 4 = .ok (.iload_n 3, 1) := by decide +kernel
theorem dX9_ownTithes_5 : decode cX9_ownTithes 5 = .ok (.aload_n 0, 1) := by decide +kernel
theorem dX9_ownTithes_6 : decode cX9_ownTithes 6 = .ok (.invokevirtual 85, 3) := by decide +kernel
theorem dX9_ownTithes_9 : decode cX9_ownTithes 9 = .ok (.if_icmp .ge 30, 3) := by decide +kernel
theorem dX9_ownTithes_12 : decode cX9_ownTithes 12 = .ok (.iload_n 2, 1) := by decide +kernel
theorem dX9_ownTithes_13 : decode cX9_ownTithes 13 = .ok (.aload_n 0, 1) := by decide +kernel
theorem dX9_ownTithes_14 : decode cX9_ownTithes 14 = .ok (.iload_n 3, 1) := by decide +kernel
theorem dX9_ownTithes_15 : decode cX9_ownTithes 15 = .ok (.invokevirtual 201, 3) := by decide +kernel
theorem dX9_ownTithes_18 : decode cX9_ownTithes 18 = .ok (.iload_n 1, 1) := by decide +kernel
theorem dX9_ownTithes_19 : decode cX9_ownTithes 19 = .ok (.if_icmp .ne 11, 3) := by decide +kernel
theorem dX9_ownTithes_22 : decode cX9_ownTithes 22 = .ok (.aload_n 0, 1) := by decide +kernel
theorem dX9_ownTithes_23 : decode cX9_ownTithes 23 = .ok (.iload_n 3, 1) := by decide +kernel
theorem dX9_ownTithes_24 : decode cX9_ownTithes 24 = .ok (.invokevirtual 136, 3) := by decide +kernel
theorem dX9_ownTithes_27 : decode cX9_ownTithes 27 = .ok (.goto 4, 3) := by decide +kernel
theorem dX9_ownTithes_30 : decode cX9_ownTithes 30 = .ok (.iconst 0, 1) := by decide +kernel
theorem dX9_ownTithes_31 : decode cX9_ownTithes 31 = .ok (.iadd, 1) := by decide +kernel
theorem dX9_ownTithes_32 : decode cX9_ownTithes 32 = .ok (.istore_n 2, 1) := by decide +kernel
theorem dX9_ownTithes_33 : decode cX9_ownTithes 33 = .ok (.iinc 3 1, 3) := by decide +kernel
theorem dX9_ownTithes_36 : decode cX9_ownTithes 36 = .ok (.goto (-32), 3) := by decide +kernel
theorem dX9_ownTithes_39 : decode cX9_ownTithes 39 = .ok (.iload_n 2, 1) := by decide +kernel
theorem dX9_ownTithes_40 : decode cX9_ownTithes 40 = .ok (.ireturn, 1) := by decide +kernel
set_option maxRecDepth 20000 in
theorem ggX9_isPact_X9_all : GoodIn wsX9_isPact wsX9_all := goodIn_r _ [5, 6, 7, 44, 45, 46, 47, 48, 49, 50, 51, 52, 53, 54, 55, 56, 57, 58, 59, 60, 61, 62, 63, 64, 65, 66, 67, 68, 69, 70, 71, 72, 73, 74, 75] (by decide +kernel) (by decide +kernel)
set_option maxRecDepth 20000 in
theorem gX9_isPact_X9_all : GoodIn wsX9_isPact (wsV RX9 85 RX9 yX9_all wsX9_all) := goodIn_app (goodIn_of _ (by decide +kernel)) ggX9_isPact_X9_all
set_option maxRecDepth 20000 in
theorem ggX9_isPact_X9_isTheirs : GoodIn wsX9_isPact wsX9_isTheirs := goodIn_r _ [11, 12, 13, 14, 15, 16, 17, 44, 45, 46, 47, 48, 49, 50, 51, 52, 53, 54, 55, 56, 57, 58, 59, 60, 61, 62, 63, 64, 65, 66, 67, 68, 69, 70, 71, 72, 73, 74, 75] (by decide +kernel) (by decide +kernel)
set_option maxRecDepth 20000 in
theorem gX9_isPact_X9_isTheirs : GoodIn wsX9_isPact (wsV RX9 222 RX9 yX9_isTheirs wsX9_isTheirs) := goodIn_app (goodIn_of _ (by decide +kernel)) ggX9_isPact_X9_isTheirs
set_option maxRecDepth 20000 in
theorem ggX9_isPact_X9_tithe : GoodIn wsX9_isPact wsX9_tithe := goodIn_r _ [21, 22, 44, 45, 46, 47, 48, 49, 50, 51, 52, 53, 54, 55, 56, 57, 58, 59, 60, 61, 62, 63, 64, 65, 66, 67, 68, 69, 70, 71, 72, 73, 74, 75] (by decide +kernel) (by decide +kernel)
set_option maxRecDepth 20000 in
theorem gX9_isPact_X9_tithe : GoodIn wsX9_isPact (wsV RX9 136 RX9 yX9_tithe wsX9_tithe) := goodIn_app (goodIn_of _ (by decide +kernel)) ggX9_isPact_X9_tithe
set_option maxRecDepth 20000 in
theorem ggX9_isPact_X9_ownTithes : GoodIn wsX9_isPact wsX9_ownTithes := goodIn_r _ [26, 1, 2, 3, 4, 5, 6, 7, 27, 28, 29, 30, 31, 32, 33, 34, 35, 17, 36, 37, 38, 39, 12, 13, 14, 40, 41, 42, 43, 15, 16, 18, 19, 20, 21, 22, 44, 45, 46, 47, 48, 49, 50, 51, 52, 53, 54, 55, 56, 57, 58, 59, 60, 61, 62, 63, 64, 65, 66, 67, 68, 69, 70, 71, 72, 73, 74, 75] (by decide +kernel) (by decide +kernel)
set_option maxRecDepth 20000 in
theorem gX9_isPact_X9_ownTithes : GoodIn wsX9_isPact (wsV RX9 225 RX9 yX9_ownTithes wsX9_ownTithes) := goodIn_app (goodIn_of _ (by decide +kernel)) ggX9_isPact_X9_ownTithes
theorem dX9_isPact_0 : decode cX9_isPact 0 = .ok (.iconst 0, 1) := by decide +kernel
theorem dX9_isPact_1 : decode cX9_isPact 1 = .ok (.istore_n 3, 1) := by decide +kernel
theorem dX9_isPact_2 : decode cX9_isPact 2 = .ok (.iconst 0, 1) := by decide +kernel
theorem dX9_isPact_3 : decode cX9_isPact 3 = .ok (.istore 4, 2) := by decide +kernel
theorem dX9_isPact_5 : decode cX9_isPact 5 = .ok (.iload 4, 2) := by decide +kernel
theorem dX9_isPact_7 : decode cX9_isPact 7 = .ok (.aload_n 0, 1) := by decide +kernel
theorem dX9_isPact_8 : decode cX9_isPact 8 = .ok (.invokevirtual 85, 3) := by decide +kernel
theorem dX9_isPact_11 : decode cX9_isPact 11 = .ok (.if_icmp .ge 33, 3) := by decide +kernel
theorem dX9_isPact_14 : decode cX9_isPact 14 = .ok (.iload_n 3, 1) := by decide +kernel
theorem dX9_isPact_15 : decode cX9_isPact 15 = .ok (.aload_n 0, 1) := by decide +kernel
theorem dX9_isPact_16 : decode cX9_isPact 16 = .ok (.iload_n 1, 1) := by decide +kernel
theorem dX9_isPact_17 : decode cX9_isPact 17 = .ok (.iload_n 2, 1) := by decide +kernel
theorem dX9_isPact_18 : decode cX9_isPact 18 = .ok (.iload 4, 2) := by decide +kernel
theorem dX9_isPact_20 : decode cX9_isPact 20 = .ok (.invokevirtual 222, 3) := by decide +kernel
theorem dX9_isPact_23 : decode cX9_isPact 23 = .ok (.ifCond .eq 12, 3) := by decide +kernel
theorem dX9_isPact_26 : decode cX9_isPact 26 = .ok (.aload_n 0, 1) := by decide +kernel
theorem dX9_isPact_27 : decode cX9_isPact 27 = .ok (.iload 4, 2) := by decide +kernel
theorem dX9_isPact_29 : decode cX9_isPact 29 = .ok (.invokevirtual 136, 3) := by decide +kernel
theorem dX9_isPact_32 : decode cX9_isPact 32 = .ok (.goto 4, 3) := by decide +kernel
theorem dX9_isPact_35 : decode cX9_isPact 35 = .ok (.iconst 0, 1) := by decide +kernel
theorem dX9_isPact_36 : decode cX9_isPact 36 = .ok (.iadd, 1) := by decide +kernel
theorem dX9_isPact_37 : decode cX9_isPact 37 = .ok (.istore_n 3, 1) := by decide +kernel
theorem dX9_isPact_38 : decode cX9_isPact 38 = .ok (.iinc 4 1, 3) := by decide +kernel
theorem dX9_isPact_41 : decode cX9_isPact 41 = .ok (.goto (-36), 3) := by decide +kernel
theorem dX9_isPact_44 : decode cX9_isPact 44 = .ok (.iload_n 3, 1) := by decide +kernel
theorem dX9_isPact_45 : decode cX9_isPact 45 = .ok (.iconst 2, 1) := by decide +kernel
theorem dX9_isPact_46 : decode cX9_isPact 46 = .ok (.aload_n 0, 1) := by decide +kernel
theorem dX9_isPact_47 : decode cX9_isPact 47 = .ok (.iload_n 1, 1) := by decide +kernel
theorem dX9_isPact_48 : decode cX9_isPact 48 = .ok (.invokevirtual 225, 3) := by decide +kernel
theorem dX9_isPact_51 : decode cX9_isPact 51 = .ok (.imul, 1) := by decide +kernel
theorem dX9_isPact_52 : decode cX9_isPact 52 = .ok (.if_icmp .le 18, 3) := by decide +kernel
theorem dX9_isPact_55 : decode cX9_isPact 55 = .ok (.iload_n 3, 1) := by decide +kernel
theorem dX9_isPact_56 : decode cX9_isPact 56 = .ok (.iconst 2, 1) := by decide +kernel
theorem dX9_isPact_57 : decode cX9_isPact 57 = .ok (.aload_n 0, 1) := by decide +kernel
theorem dX9_isPact_58 : decode cX9_isPact 58 = .ok (.iload_n 2, 1) := by decide +kernel
theorem dX9_isPact_59 : decode cX9_isPact 59 = .ok (.invokevirtual 225, 3) := by decide +kernel
theorem dX9_isPact_62 : decode cX9_isPact 62 = .ok (.imul, 1) := by decide +kernel
theorem dX9_isPact_63 : decode cX9_isPact 63 = .ok (.if_icmp .le 7, 3) := by decide +kernel
theorem dX9_isPact_66 : decode cX9_isPact 66 = .ok (.iconst 1, 1) := by decide +kernel
theorem dX9_isPact_67 : decode cX9_isPact 67 = .ok (.goto 4, 3) := by decide +kernel
theorem dX9_isPact_70 : decode cX9_isPact 70 = .ok (.iconst 0, 1) := by decide +kernel
theorem dX9_isPact_71 : decode cX9_isPact 71 = .ok (.ireturn, 1) := by decide +kernel
set_option maxRecDepth 20000 in
theorem ggX9_pacts_X9_isWind : GoodIn wsX9_pacts wsX9_isWind := goodIn_r _ [5, 6, 7, 4, 8] (by decide +kernel) (by decide +kernel)
set_option maxRecDepth 20000 in
theorem gX9_pacts_X9_isWind : GoodIn wsX9_pacts (va_wsS RX9 169 yX9_isWind wsX9_isWind) := goodIn_app (goodIn_of _ (by decide +kernel)) ggX9_pacts_X9_isWind
set_option maxRecDepth 20000 in
theorem ggX9_pacts_X9_layLoud : GoodIn wsX9_pacts wsX9_layLoud := goodIn_r _ [12, 1, 13, 14, 15, 4, 16, 17, 18, 19, 20, 21, 22, 23, 24, 25, 26, 27, 28, 29, 30, 31, 32, 33, 34, 35, 36, 37, 38, 39, 40, 41, 42, 43, 44, 45, 81, 82, 83, 84, 85, 86, 87, 88, 89, 90, 91, 92, 93, 94, 95, 96, 97, 98, 99, 100, 101, 102, 103, 104, 105, 106, 107, 108, 109, 110, 111, 112] (by decide +kernel) (by decide +kernel)
set_option maxRecDepth 20000 in
theorem gX9_pacts_X9_layLoud : GoodIn wsX9_pacts (wsV RX9 197 RX9 yX9_layLoud wsX9_layLoud) := goodIn_app (goodIn_of _ (by decide +kernel)) ggX9_pacts_X9_layLoud
set_option maxRecDepth 20000 in
theorem ggX9_pacts_X9_isPact : GoodIn wsX9_pacts wsX9_isPact := goodIn_r _ [49, 21, 22, 23, 4, 24, 25, 26, 50, 51, 52, 53, 54, 17, 19, 36, 55, 1, 56, 57, 58, 59, 34, 60, 61, 62, 63, 64, 65, 66, 67, 68, 69, 70, 71, 72, 73, 74, 75, 76, 77, 78, 79, 80, 81, 82, 83, 84, 85, 86, 87, 88, 89, 90, 91, 92, 93, 94, 95, 96, 97, 98, 99, 100, 101, 102, 103, 104, 105, 106, 107, 108, 109, 110, 111, 112] (by decide +kernel) (by decide +kernel)
set_option maxRecDepth 20000 in
theorem gX9_pacts_X9_isPact : GoodIn wsX9_pacts (wsV RX9 228 RX9 yX9_isPact wsX9_isPact) := goodIn_app (goodIn_of _ (by decide +kernel)) ggX9_pacts_X9_isPact
theorem dX9_pacts_0 : decode cX9_pacts 0 = .ok (.iload_n 1, 1) := by decide +kernel
theorem dX9_pacts_1 : decode cX9_pacts 1 = .ok (.invokestatic 169, 3) := by decide +kernel
theorem dX9_pacts_4 : decode cX9_pacts 4 = .ok (.ifCond .ne 6, 3) := by decide +kernel
theorem dX9_pacts_7 : decode cX9_pacts 7 = .ok (.bipush (-2), 2) := by decide +kernel
theorem dX9_pacts_9 : decode cX9_pacts 9 = .ok (.ireturn, 1) := by decide +kernel
theorem dX9_pacts_10 : decode cX9_pacts 10 = .ok (.iload_n 2, 1) := by decide +kernel
theorem dX9_pacts_11 : decode cX9_pacts 11 = .ok (.iconst (-1), 1) := by decide +kernel
theorem dX9_pacts_12 : decode cX9_pacts 12 = .ok (.if_icmp .ge 5, 3) := by decide +kernel
theorem dX9_pacts_15 : decode cX9_pacts 15 = .ok (.iconst (-1), 1) := by decide +kernel
theorem dX9_pacts_16 : decode cX9_pacts 16 = .ok (.ireturn, 1) := by decide +kernel
theorem dX9_pacts_17 : decode cX9_pacts 17 = .ok (.aload_n 0, 1) := by decide +kernel
theorem dX9_pacts_18 : decode cX9_pacts 18 = .ok (.iload_n 1, 1) := by decide +kernel
theorem dX9_pacts_19 : decode cX9_pacts 19 = .ok (.invokevirtual 197, 3) := by decide +kernel
theorem dX9_pacts_22 : decode cX9_pacts 22 = .ok (.iconst 0, 1) := by decide +kernel
theorem dX9_pacts_23 : decode cX9_pacts 23 = .ok (.istore_n 3, 1) := by decide +kernel
theorem dX9_pacts_24 : decode cX9_pacts 24 = .ok (.iconst 0, 1) := by decide +kernel
theorem dX9_pacts_25 : decode cX9_pacts 25 = .ok (.istore 4, 2) := by decide +kernel
theorem dX9_pacts_27 : decode cX9_pacts 27 = .ok (.iload 4, 2) := by decide +kernel
theorem dX9_pacts_29 : decode cX9_pacts 29 = .ok (.aload_n 0, 1) := by decide +kernel
theorem dX9_pacts_30 : decode cX9_pacts 30 = .ok (.getfield 116, 3) := by decide +kernel
theorem dX9_pacts_33 : decode cX9_pacts 33 = .ok (.if_icmp .ge 58, 3) := by decide +kernel
theorem dX9_pacts_36 : decode cX9_pacts 36 = .ok (.iload 4, 2) := by decide +kernel
theorem dX9_pacts_38 : decode cX9_pacts 38 = .ok (.iconst 1, 1) := by decide +kernel
theorem dX9_pacts_39 : decode cX9_pacts 39 = .ok (.iadd, 1) := by decide +kernel
theorem dX9_pacts_40 : decode cX9_pacts 40 = .ok (.istore 5, 2) := by decide +kernel
theorem dX9_pacts_42 : decode cX9_pacts 42 = .ok (.iload 5, 2) := by decide +kernel
theorem dX9_pacts_44 : decode cX9_pacts 44 = .ok (.aload_n 0, 1) := by decide +kernel
theorem dX9_pacts_45 : decode cX9_pacts 45 = .ok (.getfield 116, 3) := by decide +kernel
theorem dX9_pacts_48 : decode cX9_pacts 48 = .ok (.if_icmp .ge 37, 3) := by decide +kernel
theorem dX9_pacts_51 : decode cX9_pacts 51 = .ok (.aload_n 0, 1) := by decide +kernel
theorem dX9_pacts_52 : decode cX9_pacts 52 = .ok (.iload 4, 2) := by decide +kernel
theorem dX9_pacts_54 : decode cX9_pacts 54 = .ok (.iload 5, 2) := by decide +kernel
theorem dX9_pacts_56 : decode cX9_pacts 56 = .ok (.invokevirtual 228, 3) := by decide +kernel
theorem dX9_pacts_59 : decode cX9_pacts 59 = .ok (.ifCond .eq 20, 3) := by decide +kernel
theorem dX9_pacts_62 : decode cX9_pacts 62 = .ok (.iload_n 3, 1) := by decide +kernel
theorem dX9_pacts_63 : decode cX9_pacts 63 = .ok (.iload_n 2, 1) := by decide +kernel
theorem dX9_pacts_64 : decode cX9_pacts 64 = .ok (.if_icmp .ne 12, 3) := by decide +kernel
theorem dX9_pacts_67 : decode cX9_pacts 67 = .ok (.bipush 10, 2) := by decide +kernel
theorem dX9_pacts_69 : decode cX9_pacts 69 = .ok (.iload 4, 2) := by decide +kernel
theorem dX9_pacts_71 : decode cX9_pacts 71 = .ok (.imul, 1) := by decide +kernel
theorem dX9_pacts_72 : decode cX9_pacts 72 = .ok (.iload 5, 2) := by decide +kernel
theorem dX9_pacts_74 : decode cX9_pacts 74 = .ok (.iadd, 1) := by decide +kernel
theorem dX9_pacts_75 : decode cX9_pacts 75 = .ok (.ireturn, 1) := by decide +kernel
theorem dX9_pacts_76 : decode cX9_pacts 76 = .ok (.iinc 3 1, 3) := by decide +kernel
theorem dX9_pacts_79 : decode cX9_pacts 79 = .ok (.iinc 5 1, 3) := by decide +kernel
theorem dX9_pacts_82 : decode cX9_pacts 82 = .ok (.goto (-40), 3) := by decide +kernel
theorem dX9_pacts_85 : decode cX9_pacts 85 = .ok (.iinc 4 1, 3) := by decide +kernel
theorem dX9_pacts_88 : decode cX9_pacts 88 = .ok (.goto (-61), 3) := by decide +kernel
theorem dX9_pacts_91 : decode cX9_pacts 91 = .ok (.iload_n 2, 1) := by decide +kernel
theorem dX9_pacts_92 : decode cX9_pacts 92 = .ok (.iconst (-1), 1) := by decide +kernel
theorem dX9_pacts_93 : decode cX9_pacts 93 = .ok (.if_icmp .ne 7, 3) := by decide +kernel
theorem dX9_pacts_96 : decode cX9_pacts 96 = .ok (.iload_n 3, 1) := by decide +kernel
theorem dX9_pacts_97 : decode cX9_pacts 97 = .ok (.goto 5, 3) := by decide +kernel
theorem dX9_pacts_100 : decode cX9_pacts 100 = .ok (.bipush (-9), 2) := by decide +kernel
theorem dX9_pacts_102 : decode cX9_pacts 102 = .ok (.ireturn, 1) := by decide +kernel
set_option maxRecDepth 20000 in
theorem ggX9_report_X9_isCell : GoodIn wsX9_report wsX9_isCell := goodIn_r _ [10, 11, 12, 13, 9, 14, 15, 16, 28, 29, 30, 31, 32, 33, 34, 35, 36, 37, 38, 39, 40, 41, 42, 43, 44, 45, 46, 47, 48, 49, 50, 51, 52, 53, 54, 55, 56, 57, 58, 59] (by decide +kernel) (by decide +kernel)
set_option maxRecDepth 20000 in
theorem gX9_report_X9_isCell : GoodIn wsX9_report (wsV RX9 133 RX9 yX9_isCell wsX9_isCell) := goodIn_app (goodIn_of _ (by decide +kernel)) ggX9_report_X9_isCell
set_option maxRecDepth 20000 in
theorem ggX9_report_X9_isBell : GoodIn wsX9_report wsX9_isBell := goodIn_r _ [20, 21, 28, 29, 30, 31, 32, 33, 34, 35, 36, 37, 38, 39, 40, 41, 42, 43, 44, 45, 46, 47, 48, 49, 50, 51, 52, 53, 54, 55, 56, 57, 58, 59] (by decide +kernel) (by decide +kernel)
set_option maxRecDepth 20000 in
theorem gX9_report_X9_isBell : GoodIn wsX9_report (wsV RX9 145 RX9 yX9_isBell wsX9_isBell) := goodIn_app (goodIn_of _ (by decide +kernel)) ggX9_report_X9_isBell
set_option maxRecDepth 20000 in
theorem ggX9_report_X9_isWind : GoodIn wsX9_report wsX9_isWind := goodIn_r _ [24, 25, 26, 9, 27] (by decide +kernel) (by decide +kernel)
set_option maxRecDepth 20000 in
theorem gX9_report_X9_isWind : GoodIn wsX9_report (va_wsS RX9 169 yX9_isWind wsX9_isWind) := goodIn_app (goodIn_of _ (by decide +kernel)) ggX9_report_X9_isWind
theorem dX9_report_0 : decode cX9_report 0 = .ok (.aload_n 0, 1) := by decide +kernel
theorem dX9_report_1 : decode cX9_report 1 = .ok (.iload_n 1, 1) := by decide +kernel
theorem dX9_report_2 : decode cX9_report 2 = .ok (.invokevirtual 133, 3) := by decide +kernel
theorem dX9_report_5 : decode cX9_report 5 = .ok (.ifCond .eq 26, 3) := by decide +kernel
theorem dX9_report_8 : decode cX9_report 8 = .ok (.aload_n 0, 1) := by decide +kernel
theorem dX9_report_9 : decode cX9_report 9 = .ok (.iload_n 3, 1) := by decide +kernel
theorem dX9_report_10 : decode cX9_report 10 = .ok (.invokevirtual 145, 3) := by decide +kernel
theorem dX9_report_13 : decode cX9_report 13 = .ok (.ifCond .eq 18, 3) := by decide +kernel
theorem dX9_report_16 : decode cX9_report 16 = .ok (.aload_n 0, 1) := by decide +kernel
theorem dX9_report_17 : decode cX9_report 17 = .ok (.iload 4, 2) := by decide +kernel
theorem dX9_report_19 : decode cX9_report 19 = .ok (.invokevirtual 145, 3) := by decide +kernel
theorem dX9_report_22 : decode cX9_report 22 = .ok (.ifCond .eq 9, 3) := by decide +kernel
theorem dX9_report_25 : decode cX9_report 25 = .ok (.iload_n 3, 1) := by decide +kernel
theorem dX9_report_26 : decode cX9_report 26 = .ok (.iload 4, 2) := by decide +kernel
theorem dX9_report_28 : decode cX9_report 28 = .ok (.if_icmp .ne 5, 3) := by decide +kernel
theorem dX9_report_31 : decode cX9_report 31 = .ok (.iconst (-1), 1) := by decide +kernel
theorem dX9_report_32 : decode cX9_report 32 = .ok (.ireturn, 1) := by decide +kernel
theorem dX9_report_33 : decode cX9_report 33 = .ok (.iload_n 2, 1) := by decide +kernel
theorem dX9_report_34 : decode cX9_report 34 = .ok (.invokestatic 169, 3) := by decide +kernel
theorem dX9_report_37 : decode cX9_report 37 = .ok (.ifCond .ne 6, 3) := by decide +kernel
theorem dX9_report_40 : decode cX9_report 40 = .ok (.bipush (-2), 2) := by decide +kernel
theorem dX9_report_42 : decode cX9_report 42 = .ok (.ireturn, 1) := by decide +kernel
theorem dX9_report_43 : decode cX9_report 43 = .ok (.aload_n 0, 1) := by decide +kernel
theorem dX9_report_44 : decode cX9_report 44 = .ok (.getfield 119, 3) := by decide +kernel
theorem dX9_report_47 : decode cX9_report 47 = .ok (.bipush 10, 2) := by decide +kernel
theorem dX9_report_49 : decode cX9_report 49 = .ok (.if_icmp .ne 6, 3) := by decide +kernel
theorem dX9_report_52 : decode cX9_report 52 = .ok (.bipush (-4), 2) := by decide +kernel
theorem dX9_report_54 : decode cX9_report 54 = .ok (.ireturn, 1) := by decide +kernel
theorem dX9_report_55 : decode cX9_report 55 = .ok (.aload_n 0, 1) := by decide +kernel
theorem dX9_report_56 : decode cX9_report 56 = .ok (.getfield 45, 3) := by decide +kernel
theorem dX9_report_59 : decode cX9_report 59 = .ok (.aload_n 0, 1) := by decide +kernel
theorem dX9_report_60 : decode cX9_report 60 = .ok (.getfield 119, 3) := by decide +kernel
theorem dX9_report_63 : decode cX9_report 63 = .ok (.iload_n 1, 1) := by decide +kernel
theorem dX9_report_64 : decode cX9_report 64 = .ok (.iastore, 1) := by decide +kernel
theorem dX9_report_65 : decode cX9_report 65 = .ok (.aload_n 0, 1) := by decide +kernel
theorem dX9_report_66 : decode cX9_report 66 = .ok (.getfield 48, 3) := by decide +kernel
theorem dX9_report_69 : decode cX9_report 69 = .ok (.aload_n 0, 1) := by decide +kernel
theorem dX9_report_70 : decode cX9_report 70 = .ok (.getfield 119, 3) := by decide +kernel
theorem dX9_report_73 : decode cX9_report 73 = .ok (.iload_n 2, 1) := by decide +kernel
theorem dX9_report_74 : decode cX9_report 74 = .ok (.iastore, 1) := by decide +kernel
theorem dX9_report_75 : decode cX9_report 75 = .ok (.aload_n 0, 1) := by decide +kernel
theorem dX9_report_76 : decode cX9_report 76 = .ok (.getfield 51, 3) := by decide +kernel
theorem dX9_report_79 : decode cX9_report 79 = .ok (.aload_n 0, 1) := by decide +kernel
theorem dX9_report_80 : decode cX9_report 80 = .ok (.getfield 119, 3) := by decide +kernel
theorem dX9_report_83 : decode cX9_report 83 = .ok (.iload_n 3, 1) := by decide +kernel
theorem dX9_report_84 : decode cX9_report 84 = .ok (.iastore, 1) := by decide +kernel
theorem dX9_report_85 : decode cX9_report 85 = .ok (.aload_n 0, 1) := by decide +kernel
theorem dX9_report_86 : decode cX9_report 86 = .ok (.getfield 54, 3) := by decide +kernel
theorem dX9_report_89 : decode cX9_report 89 = .ok (.aload_n 0, 1) := by decide +kernel
theorem dX9_report_90 : decode cX9_report 90 = .ok (.getfield 119, 3) := by decide +kernel
theorem dX9_report_93 : decode cX9_report 93 = .ok (.iload 4, 2) := by decide +kernel
theorem dX9_report_95 : decode cX9_report 95 = .ok (.iastore, 1) := by decide +kernel
theorem dX9_report_96 : decode cX9_report 96 = .ok (.aload_n 0, 1) := by decide +kernel
theorem dX9_report_97 : decode cX9_report 97 = .ok (.dup, 1) := by decide +kernel
theorem dX9_report_98 : decode cX9_report 98 = .ok (.getfield 119, 3) := by decide +kernel
theorem dX9_report_101 : decode cX9_report 101 = .ok (.iconst 1, 1) := by decide +kernel
theorem dX9_report_102 : decode cX9_report 102 = .ok (.iadd, 1) := by decide +kernel
theorem dX9_report_103 : decode cX9_report 103 = .ok (.putfield 119, 3) := by decide +kernel
theorem dX9_report_106 : decode cX9_report 106 = .ok (.aload_n 0, 1) := by decide +kernel
theorem dX9_report_107 : decode cX9_report 107 = .ok (.getfield 119, 3) := by decide +kernel
theorem dX9_report_110 : decode cX9_report 110 = .ok (.iconst 1, 1) := by decide +kernel
theorem dX9_report_111 : decode cX9_report 111 = .ok (.isub, 1) := by decide +kernel
theorem dX9_report_112 : decode cX9_report 112 = .ok (.ireturn, 1) := by decide +kernel
set_option maxRecDepth 20000 in
theorem ggX9_back_X9_within : GoodIn wsX9_back wsX9_within := goodIn_r _ [5] (by decide +kernel) (by decide +kernel)
set_option maxRecDepth 20000 in
theorem gX9_back_X9_within : GoodIn wsX9_back (va_wsS RX9 75 yX9_within wsX9_within) := goodIn_app (goodIn_of _ (by decide +kernel)) ggX9_back_X9_within
theorem dX9_back_0 : decode cX9_back 0 = .ok (.iload_n 1, 1) := by decide +kernel
theorem dX9_back_1 : decode cX9_back 1 = .ok (.iconst 0, 1) := by decide +kernel
theorem dX9_back_2 : decode cX9_back 2 = .ok (.aload_n 0, 1) := by decide +kernel
theorem dX9_back_3 : decode cX9_back 3 = .ok (.getfield 119, 3) := by decide +kernel
theorem dX9_back_6 : decode cX9_back 6 = .ok (.invokestatic 75, 3) := by decide +kernel
theorem dX9_back_9 : decode cX9_back 9 = .ok (.ifCond .ne 6, 3) := by decide +kernel
theorem dX9_back_12 : decode cX9_back 12 = .ok (.bipush (-2), 2) := by decide +kernel
theorem dX9_back_14 : decode cX9_back 14 = .ok (.ireturn, 1) := by decide +kernel
theorem dX9_back_15 : decode cX9_back 15 = .ok (.aload_n 0, 1) := by decide +kernel
theorem dX9_back_16 : decode cX9_back 16 = .ok (.dup, 1) := by decide +kernel
theorem dX9_back_17 : decode cX9_back 17 = .ok (.getfield 119, 3) := by decide +kernel
theorem dX9_back_20 : decode cX9_back 20 = .ok (.iload_n 1, 1) := by decide +kernel
theorem dX9_back_21 : decode cX9_back 21 = .ok (.isub, 1) := by decide +kernel
theorem dX9_back_22 : decode cX9_back 22 = .ok (.putfield 119, 3) := by decide +kernel
theorem dX9_back_25 : decode cX9_back 25 = .ok (.aload_n 0, 1) := by decide +kernel
theorem dX9_back_26 : decode cX9_back 26 = .ok (.getfield 119, 3) := by decide +kernel
theorem dX9_back_29 : decode cX9_back 29 = .ok (.ireturn, 1) := by decide +kernel
set_option maxRecDepth 20000 in
theorem ggX9_isSo_X9_findLoud : GoodIn wsX9_isSo wsX9_findLoud := goodIn_r _ [12, 13, 14, 15, 16, 5, 6, 17, 18, 19, 20, 21, 11, 22, 23, 24, 25, 26, 27, 28, 29, 30, 31, 32, 33, 34, 35, 36, 37, 38, 39, 40, 41, 42, 43, 44, 45, 46, 47, 48, 49, 50, 51, 52, 53, 54, 55, 56, 57, 58, 59, 60] (by decide +kernel) (by decide +kernel)
set_option maxRecDepth 20000 in
theorem gX9_isSo_X9_findLoud : GoodIn wsX9_isSo (wsV RX9 172 RX9 yX9_findLoud wsX9_findLoud) := goodIn_app (goodIn_of _ (by decide +kernel)) ggX9_isSo_X9_findLoud
theorem dX9_isSo_0 : decode cX9_isSo 0 = .ok (.aload_n 0, 1) := by decide +kernel
theorem dX9_isSo_1 : decode cX9_isSo 1 = .ok (.aload_n 0, 1) := by decide +kernel
theorem dX9_isSo_2 : decode cX9_isSo 2 = .ok (.getfield 51, 3) := by decide +kernel
theorem dX9_isSo_5 : decode cX9_isSo 5 = .ok (.iload_n 1, 1) := by decide +kernel
theorem dX9_isSo_6 : decode cX9_isSo 6 = .ok (.iaload, 1) := by decide +kernel
theorem dX9_isSo_7 : decode cX9_isSo 7 = .ok (.aload_n 0, 1) := by decide +kernel
theorem dX9_isSo_8 : decode cX9_isSo 8 = .ok (.getfield 45, 3) := by decide +kernel
theorem dX9_isSo_11 : decode cX9_isSo 11 = .ok (.iload_n 1, 1) := by decide +kernel
theorem dX9_isSo_12 : decode cX9_isSo 12 = .ok (.iaload, 1) := by decide +kernel
theorem dX9_isSo_13 : decode cX9_isSo 13 = .ok (.aload_n 0, 1) := by decide +kernel
theorem dX9_isSo_14 : decode cX9_isSo 14 = .ok (.getfield 48, 3) := by decide +kernel
theorem dX9_isSo_17 : decode cX9_isSo 17 = .ok (.iload_n 1, 1) := by decide +kernel
theorem dX9_isSo_18 : decode cX9_isSo 18 = .ok (.iaload, 1) := by decide +kernel
theorem dX9_isSo_19 : decode cX9_isSo 19 = .ok (.invokevirtual 172, 3) := by decide +kernel
theorem dX9_isSo_22 : decode cX9_isSo 22 = .ok (.aload_n 0, 1) := by decide +kernel
theorem dX9_isSo_23 : decode cX9_isSo 23 = .ok (.getfield 35, 3) := by decide +kernel
theorem dX9_isSo_26 : decode cX9_isSo 26 = .ok (.aload_n 0, 1) := by decide +kernel
theorem dX9_isSo_27 : decode cX9_isSo 27 = .ok (.getfield 51, 3) := by decide +kernel
theorem dX9_isSo_30 : decode cX9_isSo 30 = .ok (.iload_n 1, 1) := by decide +kernel
theorem dX9_isSo_31 : decode cX9_isSo 31 = .ok (.iaload, 1) := by decide +kernel
theorem dX9_isSo_32 : decode cX9_isSo 32 = .ok (.iaload, 1) := by decide +kernel
theorem dX9_isSo_33 : decode cX9_isSo 33 = .ok (.i2l, 1) := by decide +kernel
theorem dX9_isSo_34 : decode cX9_isSo 34 = .ok (.aload_n 0, 1) := by decide +kernel
theorem dX9_isSo_35 : decode cX9_isSo 35 = .ok (.getfield 150, 3) := by decide +kernel
theorem dX9_isSo_38 : decode cX9_isSo 38 = .ok (.lmul, 1) := by decide +kernel
theorem dX9_isSo_39 : decode cX9_isSo 39 = .ok (.lstore_n 2, 1) := by decide +kernel
theorem dX9_isSo_40 : decode cX9_isSo 40 = .ok (.aload_n 0, 1) := by decide +kernel
theorem dX9_isSo_41 : decode cX9_isSo 41 = .ok (.getfield 154, 3) := by decide +kernel
theorem dX9_isSo_44 : decode cX9_isSo 44 = .ok (.lstore 4, 2) := by decide +kernel
theorem dX9_isSo_46 : decode cX9_isSo 46 = .ok (.aload_n 0, 1) := by decide +kernel
theorem dX9_isSo_47 : decode cX9_isSo 47 = .ok (.aload_n 0, 1) := by decide +kernel
theorem dX9_isSo_48 : decode cX9_isSo 48 = .ok (.getfield 54, 3) := by decide +kernel
theorem dX9_isSo_51 : decode cX9_isSo 51 = .ok (.iload_n 1, 1) := by decide +kernel
theorem dX9_isSo_52 : decode cX9_isSo 52 = .ok (.iaload, 1) := by decide +kernel
theorem dX9_isSo_53 : decode cX9_isSo 53 = .ok (.aload_n 0, 1) := by decide +kernel
theorem dX9_isSo_54 : decode cX9_isSo 54 = .ok (.getfield 45, 3) := by decide +kernel
theorem dX9_isSo_57 : decode cX9_isSo 57 = .ok (.iload_n 1, 1) := by decide +kernel
theorem dX9_isSo_58 : decode cX9_isSo 58 = .ok (.iaload, 1) := by decide +kernel
theorem dX9_isSo_59 : decode cX9_isSo 59 = .ok (.aload_n 0, 1) := by decide +kernel
theorem dX9_isSo_60 : decode cX9_isSo 60 = .ok (.getfield 48, 3) := by decide +kernel
theorem dX9_isSo_63 : decode cX9_isSo 63 = .ok (.iload_n 1, 1) := by decide +kernel
theorem dX9_isSo_64 : decode cX9_isSo 64 = .ok (.iaload, 1) := by decide +kernel
theorem dX9_isSo_65 : decode cX9_isSo 65 = .ok (.invokevirtual 172, 3) := by decide +kernel
theorem dX9_isSo_68 : decode cX9_isSo 68 = .ok (.lload_n 2, 1) := by decide +kernel
theorem dX9_isSo_69 : decode cX9_isSo 69 = .ok (.aload_n 0, 1) := by decide +kernel
theorem dX9_isSo_70 : decode cX9_isSo 70 = .ok (.getfield 154, 3) := by decide +kernel
theorem dX9_isSo_73 : decode cX9_isSo 73 = .ok (.lmul, 1) := by decide +kernel
theorem dX9_isSo_74 : decode cX9_isSo 74 = .ok (.aload_n 0, 1) := by decide +kernel
theorem dX9_isSo_75 : decode cX9_isSo 75 = .ok (.getfield 35, 3) := by decide +kernel
theorem dX9_isSo_78 : decode cX9_isSo 78 = .ok (.aload_n 0, 1) := by decide +kernel
theorem dX9_isSo_79 : decode cX9_isSo 79 = .ok (.getfield 54, 3) := by decide +kernel
theorem dX9_isSo_82 : decode cX9_isSo 82 = .ok (.iload_n 1, 1) := by decide +kernel
theorem dX9_isSo_83 : decode cX9_isSo 83 = .ok (.iaload, 1) := by decide +kernel
theorem dX9_isSo_84 : decode cX9_isSo 84 = .ok (.iaload, 1) := by decide +kernel
theorem dX9_isSo_85 : decode cX9_isSo 85 = .ok (.i2l, 1) := by decide +kernel
theorem dX9_isSo_86 : decode cX9_isSo 86 = .ok (.aload_n 0, 1) := by decide +kernel
theorem dX9_isSo_87 : decode cX9_isSo 87 = .ok (.getfield 150, 3) := by decide +kernel
theorem dX9_isSo_90 : decode cX9_isSo 90 = .ok (.lmul, 1) := by decide +kernel
theorem dX9_isSo_91 : decode cX9_isSo 91 = .ok (.lload 4, 2) := by decide +kernel
theorem dX9_isSo_93 : decode cX9_isSo 93 = .ok (.lmul, 1) := by decide +kernel
theorem dX9_isSo_94 : decode cX9_isSo 94 = .ok (.lcmp, 1) := by decide +kernel
theorem dX9_isSo_95 : decode cX9_isSo 95 = .ok (.ifCond .le 7, 3) := by decide +kernel
theorem dX9_isSo_98 : decode cX9_isSo 98 = .ok (.iconst 1, 1) := by decide +kernel
theorem dX9_isSo_99 : decode cX9_isSo 99 = .ok (.goto 4, 3) := by decide +kernel
theorem dX9_isSo_102 : decode cX9_isSo 102 = .ok (.iconst 0, 1) := by decide +kernel
theorem dX9_isSo_103 : decode cX9_isSo 103 = .ok (.ireturn, 1) := by decide +kernel
set_option maxRecDepth 20000 in
theorem ggX9_untrue_X9_isSo : GoodIn wsX9_untrue wsX9_isSo := goodIn_r _ [6, 7, 8, 9, 10, 11, 12, 13, 14, 15, 16, 5, 17, 18, 19, 20, 21, 22, 23, 24, 25, 26, 27, 28, 29, 30, 31, 32, 33, 34, 35, 36, 37, 38, 39, 40, 41, 42, 43, 44, 45, 46, 47, 48, 49, 50, 51, 52, 53, 54, 55, 56, 57, 58, 59, 60, 61, 62, 63, 64, 65] (by decide +kernel) (by decide +kernel)
set_option maxRecDepth 20000 in
theorem gX9_untrue_X9_isSo : GoodIn wsX9_untrue (wsV RX9 231 RX9 yX9_isSo wsX9_isSo) := goodIn_app (goodIn_of _ (by decide +kernel)) ggX9_untrue_X9_isSo
theorem dX9_untrue_0 : decode cX9_untrue 0 = .ok (.iconst 0, 1) := by decide +kernel
theorem dX9_untrue_1 : decode cX9_untrue 1 = .ok (.istore_n 1, 1) := by decide +kernel
theorem dX9_untrue_2 : decode cX9_untrue 2 = .ok (.iconst 0, 1) := by decide +kernel
theorem dX9_untrue_3 : decode cX9_untrue 3 = .ok (.istore_n 2, 1) := by decide +kernel
theorem dX9_untrue_4 : decode cX9_untrue 4 = .ok (.iload_n 2, 1) := by decide +kernel
theorem dX9_untrue_5 : decode cX9_untrue 5 = .ok (.aload_n 0, 1) := by decide +kernel
theorem dX9_untrue_6 : decode cX9_untrue 6 = .ok (.getfield 119, 3) := by decide +kernel
theorem dX9_untrue_9 : decode cX9_untrue 9 = .ok (.if_icmp .ge 27, 3) := by decide +kernel
theorem dX9_untrue_12 : decode cX9_untrue 12 = .ok (.iload_n 1, 1) := by decide +kernel
theorem dX9_untrue_13 : decode cX9_untrue 13 = .ok (.aload_n 0, 1) := by decide +kernel
theorem dX9_untrue_14 : decode cX9_untrue 14 = .ok (.iload_n 2, 1) := by decide +kernel
theorem dX9_untrue_15 : decode cX9_untrue 15 = .ok (.invokevirtual 231, 3) := by decide +kernel
theorem dX9_untrue_18 : decode cX9_untrue 18 = .ok (.ifCond .eq 7, 3) := by decide +kernel
theorem dX9_untrue_21 : decode cX9_untrue 21 = .ok (.iconst 0, 1) := by decide +kernel
theorem dX9_untrue_22 : decode cX9_untrue 22 = .ok (.goto 6, 3) := by decide +kernel
theorem dX9_untrue_25 : decode cX9_untrue 25 = .ok (.iconst 1, 1) := by decide +kernel
theorem dX9_untrue_26 : decode cX9_untrue 26 = .ok (.iload_n 2, 1) := by decide +kernel
theorem dX9_untrue_27 : decode cX9_untrue 27 = .ok (.ishl, 1) := by decide +kernel
theorem dX9_untrue_28 : decode cX9_untrue 28 = .ok (.ior, 1) := by decide +kernel
theorem dX9_untrue_29 : decode cX9_untrue 29 = .ok (.istore_n 1, 1) := by decide +kernel
theorem dX9_untrue_30 : decode cX9_untrue 30 = .ok (.iinc 2 1, 3) := by decide +kernel
theorem dX9_untrue_33 : decode cX9_untrue 33 = .ok (.goto (-29), 3) := by decide +kernel
theorem dX9_untrue_36 : decode cX9_untrue 36 = .ok (.iload_n 1, 1) := by decide +kernel
theorem dX9_untrue_37 : decode cX9_untrue 37 = .ok (.ireturn, 1) := by decide +kernel
set_option maxRecDepth 20000 in
theorem ggX9_areSoOf_X9_isSo : GoodIn wsX9_areSoOf wsX9_isSo := goodIn_r _ [8, 2, 9, 10, 11, 12, 13, 3, 14, 15, 16, 7, 17, 18, 19, 20, 21, 22, 23, 24, 25, 26, 27, 28, 29, 30, 31, 32, 33, 34, 35, 36, 37, 38, 39, 40, 41, 42, 43, 44, 45, 46, 47, 48, 49, 50, 51, 52, 53, 54, 55, 56, 57, 58, 59, 60, 61, 62, 63, 64, 65] (by decide +kernel) (by decide +kernel)
set_option maxRecDepth 20000 in
theorem gX9_areSoOf_X9_isSo : GoodIn wsX9_areSoOf (wsV RX9 231 RX9 yX9_isSo wsX9_isSo) := goodIn_app (goodIn_of _ (by decide +kernel)) ggX9_areSoOf_X9_isSo
theorem dX9_areSoOf_0 : decode cX9_areSoOf 0 = .ok (.iconst 0, 1) := by decide +kernel
theorem dX9_areSoOf_1 : decode cX9_areSoOf 1 = .ok (.istore_n 2, 1) := by decide +kernel
theorem dX9_areSoOf_2 : decode cX9_areSoOf 2 = .ok (.iload_n 2, 1) := by decide +kernel
theorem dX9_areSoOf_3 : decode cX9_areSoOf 3 = .ok (.aload_n 0, 1) := by decide +kernel
theorem dX9_areSoOf_4 : decode cX9_areSoOf 4 = .ok (.getfield 119, 3) := by decide +kernel
theorem dX9_areSoOf_7 : decode cX9_areSoOf 7 = .ok (.if_icmp .ge 39, 3) := by decide +kernel
theorem dX9_areSoOf_10 : decode cX9_areSoOf 10 = .ok (.aload_n 0, 1) := by decide +kernel
theorem dX9_areSoOf_11 : decode cX9_areSoOf 11 = .ok (.getfield 51, 3) := by decide +kernel
theorem dX9_areSoOf_14 : decode cX9_areSoOf 14 = .ok (.iload_n 2, 1) := by decide +kernel
theorem dX9_areSoOf_15 : decode cX9_areSoOf 15 = .ok (.iaload, 1) := by decide +kernel
theorem dX9_areSoOf_16 : decode cX9_areSoOf 16 = .ok (.iload_n 1, 1) := by decide +kernel
theorem dX9_areSoOf_17 : decode cX9_areSoOf 17 = .ok (.if_icmp .eq 13, 3) := by decide +kernel
theorem dX9_areSoOf_20 : decode cX9_areSoOf 20 = .ok (.aload_n 0, 1) := by decide +kernel
theorem dX9_areSoOf_21 : decode cX9_areSoOf 21 = .ok (.getfield 54, 3) := by decide +kernel
theorem dX9_areSoOf_24 : decode cX9_areSoOf 24 = .ok (.iload_n 2, 1) := by decide +kernel
theorem dX9_areSoOf_25 : decode cX9_areSoOf 25 = .ok (.iaload, 1) := by decide +kernel
theorem dX9_areSoOf_26 : decode cX9_areSoOf 26 = .ok (.iload_n 1, 1) := by decide +kernel
theorem dX9_areSoOf_27 : decode cX9_areSoOf 27 = .ok (.if_icmp .ne 13, 3) := by decide +kernel
theorem dX9_areSoOf_30 : decode cX9_areSoOf 30 = .ok (.aload_n 0, 1) := by decide +kernel
theorem dX9_areSoOf_31 : decode cX9_areSoOf 31 = .ok (.iload_n 2, 1) := by decide +kernel
theorem dX9_areSoOf_32 : decode cX9_areSoOf 32 = .ok (.invokevirtual 231, 3) := by decide +kernel
theorem dX9_areSoOf_35 : decode cX9_areSoOf 35 = .ok (.ifCond .ne 5, 3) := by decide +kernel
theorem dX9_areSoOf_38 : decode cX9_areSoOf 38 = .ok (.iconst 0, 1) := by decide +kernel
theorem dX9_areSoOf_39 : decode cX9_areSoOf 39 = .ok (.ireturn, 1) := by decide +kernel
theorem dX9_areSoOf_40 : decode cX9_areSoOf 40 = .ok (.iinc 2 1, 3) := by decide +kernel
theorem dX9_areSoOf_43 : decode cX9_areSoOf 43 = .ok (.goto (-41), 3) := by decide +kernel
theorem dX9_areSoOf_46 : decode cX9_areSoOf 46 = .ok (.iconst 1, 1) := by decide +kernel
theorem dX9_areSoOf_47 : decode cX9_areSoOf 47 = .ok (.ireturn, 1) := by decide +kernel
set_option maxRecDepth 20000 in
theorem ggX9_leaves_X9_isBell : GoodIn wsX9_leaves wsX9_isBell := goodIn_r _ [6, 7, 46, 47, 48, 49, 50, 51, 52, 53, 54, 55, 56, 57, 58, 59, 60, 61, 62, 63, 64, 65, 66, 67, 68, 69, 70, 71, 72, 73, 74, 75, 76, 77] (by decide +kernel) (by decide +kernel)
set_option maxRecDepth 20000 in
theorem gX9_leaves_X9_isBell : GoodIn wsX9_leaves (wsV RX9 145 RX9 yX9_isBell wsX9_isBell) := goodIn_app (goodIn_of _ (by decide +kernel)) ggX9_leaves_X9_isBell
set_option maxRecDepth 20000 in
theorem ggX9_leaves_X9_within : GoodIn wsX9_leaves wsX9_within := goodIn_r _ [10] (by decide +kernel) (by decide +kernel)
set_option maxRecDepth 20000 in
theorem gX9_leaves_X9_within : GoodIn wsX9_leaves (va_wsS RX9 75 yX9_within wsX9_within) := goodIn_app (goodIn_of _ (by decide +kernel)) ggX9_leaves_X9_within
set_option maxRecDepth 20000 in
theorem ggX9_leaves_X9_areSoOf : GoodIn wsX9_leaves wsX9_areSoOf := goodIn_r _ [14, 15, 16, 17, 18, 19, 20, 5, 21, 22, 23, 1, 24, 25, 26, 27, 28, 29, 30, 31, 32, 33, 34, 35, 36, 37, 38, 39, 40, 41, 42, 43, 44, 45, 46, 47, 48, 49, 50, 51, 52, 53, 54, 55, 56, 57, 58, 59, 60, 61, 62, 63, 64, 65, 66, 67, 68, 69, 70, 71, 72, 73, 74, 75, 76, 77] (by decide +kernel) (by decide +kernel)
set_option maxRecDepth 20000 in
theorem gX9_leaves_X9_areSoOf : GoodIn wsX9_leaves (wsV RX9 234 RX9 yX9_areSoOf wsX9_areSoOf) := goodIn_app (goodIn_of _ (by decide +kernel)) ggX9_leaves_X9_areSoOf
theorem dX9_leaves_0 : decode cX9_leaves 0 = .ok (.aload_n 0, 1) := by decide +kernel
theorem dX9_leaves_1 : decode cX9_leaves 1 = .ok (.iload_n 1, 1) := by decide +kernel
theorem dX9_leaves_2 : decode cX9_leaves 2 = .ok (.invokevirtual 145, 3) := by decide +kernel
theorem dX9_leaves_5 : decode cX9_leaves 5 = .ok (.ifCond .ne 5, 3) := by decide +kernel
theorem dX9_leaves_8 : decode cX9_leaves 8 = .ok (.iconst (-1), 1) := by decide +kernel
theorem dX9_leaves_9 : decode cX9_leaves 9 = .ok (.ireturn, 1) := by decide +kernel
theorem dX9_leaves_10 : decode cX9_leaves 10 = .ok (.iload_n 2, 1) := by decide +kernel
theorem dX9_leaves_11 : decode cX9_leaves 11 = .ok (.iconst 0, 1) := by decide +kernel
theorem dX9_leaves_12 : decode cX9_leaves 12 = .ok (.iconst 2, 1) := by decide +kernel
theorem dX9_leaves_13 : decode cX9_leaves 13 = .ok (.invokestatic 75, 3) := by decide +kernel
theorem dX9_leaves_16 : decode cX9_leaves 16 = .ok (.ifCond .ne 6, 3) := by decide +kernel
theorem dX9_leaves_19 : decode cX9_leaves 19 = .ok (.bipush (-2), 2) := by decide +kernel
theorem dX9_leaves_21 : decode cX9_leaves 21 = .ok (.ireturn, 1) := by decide +kernel
theorem dX9_leaves_22 : decode cX9_leaves 22 = .ok (.aload_n 0, 1) := by decide +kernel
theorem dX9_leaves_23 : decode cX9_leaves 23 = .ok (.getfield 35, 3) := by decide +kernel
theorem dX9_leaves_26 : decode cX9_leaves 26 = .ok (.iload_n 1, 1) := by decide +kernel
theorem dX9_leaves_27 : decode cX9_leaves 27 = .ok (.iaload, 1) := by decide +kernel
theorem dX9_leaves_28 : decode cX9_leaves 28 = .ok (.istore_n 3, 1) := by decide +kernel
theorem dX9_leaves_29 : decode cX9_leaves 29 = .ok (.iconst 0, 1) := by decide +kernel
theorem dX9_leaves_30 : decode cX9_leaves 30 = .ok (.istore 4, 2) := by decide +kernel
theorem dX9_leaves_32 : decode cX9_leaves 32 = .ok (.bipush (-9), 2) := by decide +kernel
theorem dX9_leaves_34 : decode cX9_leaves 34 = .ok (.istore 5, 2) := by decide +kernel
theorem dX9_leaves_36 : decode cX9_leaves 36 = .ok (.bipush (-9), 2) := by decide +kernel
theorem dX9_leaves_38 : decode cX9_leaves 38 = .ok (.istore 6, 2) := by decide +kernel
theorem dX9_leaves_40 : decode cX9_leaves 40 = .ok (.iconst 1, 1) := by decide +kernel
theorem dX9_leaves_41 : decode cX9_leaves 41 = .ok (.istore 7, 2) := by decide +kernel
theorem dX9_leaves_43 : decode cX9_leaves 43 = .ok (.iload 7, 2) := by decide +kernel
theorem dX9_leaves_45 : decode cX9_leaves 45 = .ok (.bipush 99, 2) := by decide +kernel
theorem dX9_leaves_47 : decode cX9_leaves 47 = .ok (.if_icmp .gt 48, 3) := by decide +kernel
theorem dX9_leaves_50 : decode cX9_leaves 50 = .ok (.aload_n 0, 1) := by decide +kernel
theorem dX9_leaves_51 : decode cX9_leaves 51 = .ok (.getfield 35, 3) := by decide +kernel
theorem dX9_leaves_54 : decode cX9_leaves 54 = .ok (.iload_n 1, 1) := by decide +kernel
theorem dX9_leaves_55 : decode cX9_leaves 55 = .ok (.iload 7, 2) := by decide +kernel
theorem dX9_leaves_57 : decode cX9_leaves 57 = .ok (.iastore, 1) := by decide +kernel
theorem dX9_leaves_58 : decode cX9_leaves 58 = .ok (.aload_n 0, 1) := by decide +kernel
theorem dX9_leaves_59 : decode cX9_leaves 59 = .ok (.iload_n 1, 1) := by decide +kernel
theorem dX9_leaves_60 : decode cX9_leaves 60 = .ok (.invokevirtual 234, 3) := by decide +kernel
theorem dX9_leaves_63 : decode cX9_leaves 63 = .ok (.ifCond .eq 26, 3) := by decide +kernel
theorem dX9_leaves_66 : decode cX9_leaves 66 = .ok (.iinc 4 1, 3) := by decide +kernel
theorem dX9_leaves_69 : decode cX9_leaves 69 = .ok (.iload 5, 2) := by decide +kernel
theorem dX9_leaves_71 : decode cX9_leaves 71 = .ok (.bipush (-9), 2) := by decide +kernel
theorem dX9_leaves_73 : decode cX9_leaves 73 = .ok (.if_icmp .ne 8, 3) := by decide +kernel
theorem dX9_leaves_76 : decode cX9_leaves 76 = .ok (.iload 7, 2) := by decide +kernel
theorem dX9_leaves_78 : decode cX9_leaves 78 = .ok (.goto 5, 3) := by decide +kernel
theorem dX9_leaves_81 : decode cX9_leaves 81 = .ok (.iload 5, 2) := by decide +kernel
theorem dX9_leaves_83 : decode cX9_leaves 83 = .ok (.istore 5, 2) := by decide +kernel
theorem dX9_leaves_85 : decode cX9_leaves 85 = .ok (.iload 7, 2) := by decide +kernel
theorem dX9_leaves_87 : decode cX9_leaves 87 = .ok (.istore 6, 2) := by decide +kernel
theorem dX9_leaves_89 : decode cX9_leaves 89 = .ok (.iinc 7 1, 3) := by decide +kernel
theorem dX9_leaves_92 : decode cX9_leaves 92 = .ok (.goto (-49), 3) := by decide +kernel
theorem dX9_leaves_95 : decode cX9_leaves 95 = .ok (.aload_n 0, 1) := by decide +kernel
theorem dX9_leaves_96 : decode cX9_leaves 96 = .ok (.getfield 35, 3) := by decide +kernel
theorem dX9_leaves_99 : decode cX9_leaves 99 = .ok (.iload_n 1, 1) := by decide +kernel
theorem dX9_leaves_100 : decode cX9_leaves 100 = .ok (.iload_n 3, 1) := by decide +kernel
theorem dX9_leaves_101 : decode cX9_leaves 101 = .ok (.iastore, 1) := by decide +kernel
theorem dX9_leaves_102 : decode cX9_leaves 102 = .ok (.iload_n 2, 1) := by decide +kernel
theorem dX9_leaves_103 : decode cX9_leaves 103 = .ok (.ifCond .ne 8, 3) := by decide +kernel
theorem dX9_leaves_106 : decode cX9_leaves 106 = .ok (.iload 4, 2) := by decide +kernel
theorem dX9_leaves_108 : decode cX9_leaves 108 = .ok (.goto 15, 3) := by decide +kernel
theorem dX9_leaves_111 : decode cX9_leaves 111 = .ok (.iload_n 2, 1) := by decide +kernel
theorem dX9_leaves_112 : decode cX9_leaves 112 = .ok (.iconst 1, 1) := by decide +kernel
theorem dX9_leaves_113 : decode cX9_leaves 113 = .ok (.if_icmp .ne 8, 3) := by decide +kernel
theorem dX9_leaves_116 : decode cX9_leaves 116 = .ok (.iload 5, 2) := by decide +kernel
theorem dX9_leaves_118 : decode cX9_leaves 118 = .ok (.goto 5, 3) := by decide +kernel
theorem dX9_leaves_121 : decode cX9_leaves 121 = .ok (.iload 6, 2) := by decide +kernel
theorem dX9_leaves_123 : decode cX9_leaves 123 = .ok (.ireturn, 1) := by decide +kernel
set_option maxRecDepth 20000 in
theorem ggX9_isOwn_X9_findLoud : GoodIn wsX9_isOwn wsX9_findLoud := goodIn_r _ [10, 11, 12, 13, 14, 3, 5, 15, 16, 17, 18, 19, 9, 20, 21, 22, 23, 24, 25, 26, 46, 47, 48, 49, 50, 51, 52, 53, 54, 55, 56, 57, 58, 59, 60, 61, 62, 63, 64, 65, 66, 67, 68, 69, 70, 71, 72, 73, 74, 75, 76, 77] (by decide +kernel) (by decide +kernel)
set_option maxRecDepth 20000 in
theorem gX9_isOwn_X9_findLoud : GoodIn wsX9_isOwn (wsV RX9 172 RX9 yX9_findLoud wsX9_findLoud) := goodIn_app (goodIn_of _ (by decide +kernel)) ggX9_isOwn_X9_findLoud
set_option maxRecDepth 20000 in
theorem ggX9_isOwn_X9_whoseBy : GoodIn wsX9_isOwn wsX9_whoseBy := goodIn_r _ [30, 31, 32, 33, 34, 9, 35, 1, 36, 37, 38, 39, 40, 2, 4, 41, 42, 43, 44, 17, 45, 46, 47, 48, 49, 50, 51, 52, 53, 54, 55, 56, 57, 58, 59, 60, 61, 62, 63, 64, 65, 66, 67, 68, 69, 70, 71, 72, 73, 74, 75, 76, 77] (by decide +kernel) (by decide +kernel)
set_option maxRecDepth 20000 in
theorem gX9_isOwn_X9_whoseBy : GoodIn wsX9_isOwn (wsV RX9 201 RX9 yX9_whoseBy wsX9_whoseBy) := goodIn_app (goodIn_of _ (by decide +kernel)) ggX9_isOwn_X9_whoseBy
theorem dX9_isOwn_0 : decode cX9_isOwn 0 = .ok (.iconst 0, 1) := by decide +kernel
theorem dX9_isOwn_1 : decode cX9_isOwn 1 = .ok (.istore 4, 2) := by decide +kernel
theorem dX9_isOwn_3 : decode cX9_isOwn 3 = .ok (.iload 4, 2) := by decide +kernel
theorem dX9_isOwn_5 : decode cX9_isOwn 5 = .ok (.aload_n 0, 1) := by decide +kernel
theorem dX9_isOwn_6 : decode cX9_isOwn 6 = .ok (.getfield 116, 3) := by decide +kernel
theorem dX9_isOwn_9 : decode cX9_isOwn 9 = .ok (.if_icmp .ge 49, 3) := by decide +kernel
theorem dX9_isOwn_12 : decode cX9_isOwn 12 = .ok (.aload_n 0, 1) := by decide +kernel
theorem dX9_isOwn_13 : decode cX9_isOwn 13 = .ok (.iload 4, 2) := by decide +kernel
theorem dX9_isOwn_15 : decode cX9_isOwn 15 = .ok (.iload_n 2, 1) := by decide +kernel
theorem dX9_isOwn_16 : decode cX9_isOwn 16 = .ok (.iload_n 3, 1) := by decide +kernel
theorem dX9_isOwn_17 : decode cX9_isOwn 17 = .ok (.invokevirtual 172, 3) := by decide +kernel
theorem dX9_isOwn_20 : decode cX9_isOwn 20 = .ok (.aload_n 0, 1) := by decide +kernel
theorem dX9_isOwn_21 : decode cX9_isOwn 21 = .ok (.getfield 38, 3) := by decide +kernel
theorem dX9_isOwn_24 : decode cX9_isOwn 24 = .ok (.bipush 30, 2) := by decide +kernel
theorem dX9_isOwn_26 : decode cX9_isOwn 26 = .ok (.iload 4, 2) := by decide +kernel
theorem dX9_isOwn_28 : decode cX9_isOwn 28 = .ok (.imul, 1) := by decide +kernel
theorem dX9_isOwn_29 : decode cX9_isOwn 29 = .ok (.iload_n 2, 1) := by decide +kernel
theorem dX9_isOwn_30 : decode cX9_isOwn 30 = .ok (.iadd, 1) := by decide +kernel
theorem dX9_isOwn_31 : decode cX9_isOwn 31 = .ok (.aload_n 0, 1) := by decide +kernel
theorem dX9_isOwn_32 : decode cX9_isOwn 32 = .ok (.getfield 150, 3) := by decide +kernel
theorem dX9_isOwn_35 : decode cX9_isOwn 35 = .ok (.lastore, 1) := by decide +kernel
theorem dX9_isOwn_36 : decode cX9_isOwn 36 = .ok (.aload_n 0, 1) := by decide +kernel
theorem dX9_isOwn_37 : decode cX9_isOwn 37 = .ok (.getfield 42, 3) := by decide +kernel
theorem dX9_isOwn_40 : decode cX9_isOwn 40 = .ok (.bipush 30, 2) := by decide +kernel
theorem dX9_isOwn_42 : decode cX9_isOwn 42 = .ok (.iload 4, 2) := by decide +kernel
theorem dX9_isOwn_44 : decode cX9_isOwn 44 = .ok (.imul, 1) := by decide +kernel
theorem dX9_isOwn_45 : decode cX9_isOwn 45 = .ok (.iload_n 2, 1) := by decide +kernel
theorem dX9_isOwn_46 : decode cX9_isOwn 46 = .ok (.iadd, 1) := by decide +kernel
theorem dX9_isOwn_47 : decode cX9_isOwn 47 = .ok (.aload_n 0, 1) := by decide +kernel
theorem dX9_isOwn_48 : decode cX9_isOwn 48 = .ok (.getfield 154, 3) := by decide +kernel
theorem dX9_isOwn_51 : decode cX9_isOwn 51 = .ok (.lastore, 1) := by decide +kernel
theorem dX9_isOwn_52 : decode cX9_isOwn 52 = .ok (.iinc 4 1, 3) := by decide +kernel
theorem dX9_isOwn_55 : decode cX9_isOwn 55 = .ok (.goto (-52), 3) := by decide +kernel
theorem dX9_isOwn_58 : decode cX9_isOwn 58 = .ok (.aload_n 0, 1) := by decide +kernel
theorem dX9_isOwn_59 : decode cX9_isOwn 59 = .ok (.iload_n 2, 1) := by decide +kernel
theorem dX9_isOwn_60 : decode cX9_isOwn 60 = .ok (.invokevirtual 201, 3) := by decide +kernel
theorem dX9_isOwn_63 : decode cX9_isOwn 63 = .ok (.iload_n 1, 1) := by decide +kernel
theorem dX9_isOwn_64 : decode cX9_isOwn 64 = .ok (.if_icmp .ne 7, 3) := by decide +kernel
theorem dX9_isOwn_67 : decode cX9_isOwn 67 = .ok (.iconst 1, 1) := by decide +kernel
theorem dX9_isOwn_68 : decode cX9_isOwn 68 = .ok (.goto 4, 3) := by decide +kernel
theorem dX9_isOwn_71 : decode cX9_isOwn 71 = .ok (.iconst 0, 1) := by decide +kernel
theorem dX9_isOwn_72 : decode cX9_isOwn 72 = .ok (.ireturn, 1) := by decide +kernel
set_option maxRecDepth 20000 in
theorem ggX9_mayPlant_X9_hanging : GoodIn wsX9_mayPlant wsX9_hanging := goodIn_r _ [6, 7, 8, 9, 10, 11, 12, 13, 14, 15, 16, 17, 18, 19, 20, 21, 22, 23, 24, 25, 26, 27, 28, 29, 30, 31, 32, 33, 34, 35, 36, 37, 38, 39, 40] (by decide +kernel) (by decide +kernel)
set_option maxRecDepth 20000 in
theorem gX9_mayPlant_X9_hanging : GoodIn wsX9_mayPlant (wsV RX9 139 RX9 yX9_hanging wsX9_hanging) := goodIn_app (goodIn_of _ (by decide +kernel)) ggX9_mayPlant_X9_hanging
theorem dX9_mayPlant_0 : decode cX9_mayPlant 0 = .ok (.iload_n 1, 1) := by decide +kernel
theorem dX9_mayPlant_1 : decode cX9_mayPlant 1 = .ok (.iload_n 2, 1) := by decide +kernel
theorem dX9_mayPlant_2 : decode cX9_mayPlant 2 = .ok (.if_icmp .eq 24, 3) := by decide +kernel
theorem dX9_mayPlant_5 : decode cX9_mayPlant 5 = .ok (.aload_n 0, 1) := by decide +kernel
theorem dX9_mayPlant_6 : decode cX9_mayPlant 6 = .ok (.getfield 22, 3) := by decide +kernel
theorem dX9_mayPlant_9 : decode cX9_mayPlant 9 = .ok (.iload_n 1, 1) := by decide +kernel
theorem dX9_mayPlant_10 : decode cX9_mayPlant 10 = .ok (.baload, 1) := by decide +kernel
theorem dX9_mayPlant_11 : decode cX9_mayPlant 11 = .ok (.ifCond .ne 15, 3) := by decide +kernel
theorem dX9_mayPlant_14 : decode cX9_mayPlant 14 = .ok (.aload_n 0, 1) := by decide +kernel
theorem dX9_mayPlant_15 : decode cX9_mayPlant 15 = .ok (.iload_n 1, 1) := by decide +kernel
theorem dX9_mayPlant_16 : decode cX9_mayPlant 16 = .ok (.invokevirtual 139, 3) := by decide +kernel
theorem dX9_mayPlant_19 : decode cX9_mayPlant 19 = .ok (.ifCond .ne 7, 3) := by decide +kernel
theorem dX9_mayPlant_22 : decode cX9_mayPlant 22 = .ok (.iconst 1, 1) := by decide +kernel
theorem dX9_mayPlant_23 : decode cX9_mayPlant 23 = .ok (.goto 4, 3) := by decide +kernel
theorem dX9_mayPlant_26 : decode cX9_mayPlant 26 = .ok (.iconst 0, 1) := by decide +kernel
theorem dX9_mayPlant_27 : decode cX9_mayPlant 27 = .ok (.ireturn, 1) := by decide +kernel
set_option maxRecDepth 20000 in
theorem ggX9_keepsBy_X9_all : GoodIn wsX9_keepsBy wsX9_all := goodIn_r _ [5, 6, 7, 75, 76, 77, 78, 79, 80, 81, 82, 83, 84, 85, 86, 87, 88, 89, 90, 91, 92, 93, 94, 95, 96, 97, 98, 99, 100, 101, 102, 103, 104, 105, 106] (by decide +kernel) (by decide +kernel)
set_option maxRecDepth 20000 in
theorem gX9_keepsBy_X9_all : GoodIn wsX9_keepsBy (wsV RX9 85 RX9 yX9_all wsX9_all) := goodIn_app (goodIn_of _ (by decide +kernel)) ggX9_keepsBy_X9_all
set_option maxRecDepth 20000 in
theorem ggX9_keepsBy_X9_keepsSo : GoodIn wsX9_keepsBy wsX9_keepsSo := goodIn_r _ [11, 12, 13, 14, 15, 4, 16, 17, 18, 19, 20, 21, 22, 23, 24, 25, 26, 27, 28, 29, 30, 31, 32, 33, 34, 35, 36, 37, 38, 39, 7, 40, 41, 42, 43, 44, 45, 46, 47, 48, 49, 50, 51, 52, 53, 54, 55, 56, 57, 58, 59, 60, 61, 62, 63, 64, 65, 66, 67, 68, 69, 70, 71, 75, 76, 77, 78, 79, 80, 81, 82, 83, 84, 85, 86, 87, 88, 89, 90, 91, 92, 93, 94, 95, 96, 97, 98, 99, 100, 101, 102, 103, 104, 105, 106] (by decide +kernel) (by decide +kernel)
set_option maxRecDepth 20000 in
theorem gX9_keepsBy_X9_keepsSo : GoodIn wsX9_keepsBy (wsV RX9 237 RX9 yX9_keepsSo wsX9_keepsSo) := goodIn_app (goodIn_of _ (by decide +kernel)) ggX9_keepsBy_X9_keepsSo
set_option maxRecDepth 20000 in
theorem ggX9_keepsBy_X9_nextOf : GoodIn wsX9_keepsBy wsX9_nextOf := goodIn_r _ [74] (by decide +kernel) (by decide +kernel)
set_option maxRecDepth 20000 in
theorem gX9_keepsBy_X9_nextOf : GoodIn wsX9_keepsBy (va_wsS RX9 241 yX9_nextOf wsX9_nextOf) := goodIn_app (goodIn_of _ (by decide +kernel)) ggX9_keepsBy_X9_nextOf
theorem dX9_keepsBy_0 : decode cX9_keepsBy 0 = .ok (.aload_n 0, 1) := by decide +kernel
theorem dX9_keepsBy_1 : decode cX9_keepsBy 1 = .ok (.invokevirtual 85, 3) := by decide +kernel
theorem dX9_keepsBy_4 : decode cX9_keepsBy 4 = .ok (.istore 5, 2) := by decide +kernel
theorem dX9_keepsBy_6 : decode cX9_keepsBy 6 = .ok (.iload_n 1, 1) := by decide +kernel
theorem dX9_keepsBy_7 : decode cX9_keepsBy 7 = .ok (.ifCond .le 7, 3) := by decide +kernel
theorem dX9_keepsBy_10 : decode cX9_keepsBy 10 = .ok (.iconst 0, 1) := by decide +kernel
theorem dX9_keepsBy_11 : decode cX9_keepsBy 11 = .ok (.goto 5, 3) := by decide +kernel
theorem dX9_keepsBy_14 : decode cX9_keepsBy 14 = .ok (.bipush (-9), 2) := by decide +kernel
theorem dX9_keepsBy_16 : decode cX9_keepsBy 16 = .ok (.istore 6, 2) := by decide +kernel
theorem dX9_keepsBy_18 : decode cX9_keepsBy 18 = .ok (.iload 6, 2) := by decide +kernel
theorem dX9_keepsBy_20 : decode cX9_keepsBy 20 = .ok (.iload 5, 2) := by decide +kernel
theorem dX9_keepsBy_22 : decode cX9_keepsBy 22 = .ok (.if_icmp .ge 104, 3) := by decide +kernel
theorem dX9_keepsBy_25 : decode cX9_keepsBy 25 = .ok (.iload_n 1, 1) := by decide +kernel
theorem dX9_keepsBy_26 : decode cX9_keepsBy 26 = .ok (.iconst 1, 1) := by decide +kernel
theorem dX9_keepsBy_27 : decode cX9_keepsBy 27 = .ok (.if_icmp .le 10, 3) := by decide +kernel
theorem dX9_keepsBy_30 : decode cX9_keepsBy 30 = .ok (.iload 6, 2) := by decide +kernel
theorem dX9_keepsBy_32 : decode cX9_keepsBy 32 = .ok (.iconst 1, 1) := by decide +kernel
theorem dX9_keepsBy_33 : decode cX9_keepsBy 33 = .ok (.iadd, 1) := by decide +kernel
theorem dX9_keepsBy_34 : decode cX9_keepsBy 34 = .ok (.goto 5, 3) := by decide +kernel
theorem dX9_keepsBy_37 : decode cX9_keepsBy 37 = .ok (.bipush (-9), 2) := by decide +kernel
theorem dX9_keepsBy_39 : decode cX9_keepsBy 39 = .ok (.istore 7, 2) := by decide +kernel
theorem dX9_keepsBy_41 : decode cX9_keepsBy 41 = .ok (.iload 7, 2) := by decide +kernel
theorem dX9_keepsBy_43 : decode cX9_keepsBy 43 = .ok (.iload 5, 2) := by decide +kernel
theorem dX9_keepsBy_45 : decode cX9_keepsBy 45 = .ok (.if_icmp .ge 69, 3) := by decide +kernel
theorem dX9_keepsBy_48 : decode cX9_keepsBy 48 = .ok (.iload_n 1, 1) := by decide +kernel
theorem dX9_keepsBy_49 : decode cX9_keepsBy 49 = .ok (.iconst 2, 1) := by decide +kernel
theorem dX9_keepsBy_50 : decode cX9_keepsBy 50 = .ok (.if_icmp .le 10, 3) := by decide +kernel
theorem dX9_keepsBy_53 : decode cX9_keepsBy 53 = .ok (.iload 7, 2) := by decide +kernel
theorem dX9_keepsBy_55 : decode cX9_keepsBy 55 = .ok (.iconst 1, 1) := by decide +kernel
theorem dX9_keepsBy_56 : decode cX9_keepsBy 56 = .ok (.iadd, 1) := by decide +kernel
theorem dX9_keepsBy_57 : decode cX9_keepsBy 57 = .ok (.goto 5, 3) := by decide +kernel
theorem dX9_keepsBy_60 : decode cX9_keepsBy 60 = .ok (.bipush (-9), 2) := by decide +kernel
theorem dX9_keepsBy_62 : decode cX9_keepsBy 62 = .ok (.istore 8, 2) := by decide +kernel
theorem dX9_keepsBy_64 : decode cX9_keepsBy 64 = .ok (.iload 8, 2) := by decide +kernel
theorem dX9_keepsBy_66 : decode cX9_keepsBy 66 = .ok (.iload 5, 2) := by decide +kernel
theorem dX9_keepsBy_68 : decode cX9_keepsBy 68 = .ok (.if_icmp .ge 34, 3) := by decide +kernel
theorem dX9_keepsBy_71 : decode cX9_keepsBy 71 = .ok (.aload_n 0, 1) := by decide +kernel
theorem dX9_keepsBy_72 : decode cX9_keepsBy 72 = .ok (.iload 6, 2) := by decide +kernel
theorem dX9_keepsBy_74 : decode cX9_keepsBy 74 = .ok (.iload 7, 2) := by decide +kernel
theorem dX9_keepsBy_76 : decode cX9_keepsBy 76 = .ok (.iload 8, 2) := by decide +kernel
theorem dX9_keepsBy_78 : decode cX9_keepsBy 78 = .ok (.iload_n 2, 1) := by decide +kernel
theorem dX9_keepsBy_79 : decode cX9_keepsBy 79 = .ok (.iload_n 3, 1) := by decide +kernel
theorem dX9_keepsBy_80 : decode cX9_keepsBy 80 = .ok (.iload 4, 2) := by decide +kernel
theorem dX9_keepsBy_82 : decode cX9_keepsBy 82 = .ok (.invokevirtual 237, 3) := by decide +kernel
theorem dX9_keepsBy_85 : decode cX9_keepsBy 85 = .ok (.ifCond .eq 5, 3) := by decide +kernel
theorem dX9_keepsBy_88 : decode cX9_keepsBy 88 = .ok (.iconst 1, 1) := by decide +kernel
theorem dX9_keepsBy_89 : decode cX9_keepsBy 89 = .ok (.ireturn, 1) := by decide +kernel
theorem dX9_keepsBy_90 : decode cX9_keepsBy 90 = .ok (.iload 8, 2) := by decide +kernel
theorem dX9_keepsBy_92 : decode cX9_keepsBy 92 = .ok (.iload 5, 2) := by decide +kernel
theorem dX9_keepsBy_94 : decode cX9_keepsBy 94 = .ok (.invokestatic 241, 3) := by decide +kernel
theorem dX9_keepsBy_97 : decode cX9_keepsBy 97 = .ok (.istore 8, 2) := by decide +kernel
theorem dX9_keepsBy_99 : decode cX9_keepsBy 99 = .ok (.goto (-35), 3) := by decide +kernel
theorem dX9_keepsBy_102 : decode cX9_keepsBy 102 = .ok (.iload 7, 2) := by decide +kernel
theorem dX9_keepsBy_104 : decode cX9_keepsBy 104 = .ok (.iload 5, 2) := by decide +kernel
theorem dX9_keepsBy_106 : decode cX9_keepsBy 106 = .ok (.invokestatic 241, 3) := by decide +kernel
theorem dX9_keepsBy_109 : decode cX9_keepsBy 109 = .ok (.istore 7, 2) := by decide +kernel
theorem dX9_keepsBy_111 : decode cX9_keepsBy 111 = .ok (.goto (-70), 3) := by decide +kernel
theorem dX9_keepsBy_114 : decode cX9_keepsBy 114 = .ok (.iload 6, 2) := by decide +kernel
theorem dX9_keepsBy_116 : decode cX9_keepsBy 116 = .ok (.iload 5, 2) := by decide +kernel
theorem dX9_keepsBy_118 : decode cX9_keepsBy 118 = .ok (.invokestatic 241, 3) := by decide +kernel
theorem dX9_keepsBy_121 : decode cX9_keepsBy 121 = .ok (.istore 6, 2) := by decide +kernel
theorem dX9_keepsBy_123 : decode cX9_keepsBy 123 = .ok (.goto (-105), 3) := by decide +kernel
theorem dX9_keepsBy_126 : decode cX9_keepsBy 126 = .ok (.iconst 0, 1) := by decide +kernel
theorem dX9_keepsBy_127 : decode cX9_keepsBy 127 = .ok (.ireturn, 1) := by decide +kernel
theorem dX9_nextOf_0 : decode cX9_nextOf 0 = .ok (.iload_n 0, 1) := by decide +kernel
theorem dX9_nextOf_1 : decode cX9_nextOf 1 = .ok (.bipush (-9), 2) := by decide +kernel
theorem dX9_nextOf_3 : decode cX9_nextOf 3 = .ok (.if_icmp .ne 7, 3) := by decide +kernel
theorem dX9_nextOf_6 : decode cX9_nextOf 6 = .ok (.iload_n 1, 1) := by decide +kernel
theorem dX9_nextOf_7 : decode cX9_nextOf 7 = .ok (.goto 6, 3) := by decide +kernel
theorem dX9_nextOf_10 : decode cX9_nextOf 10 = .ok (.iload_n 0, 1) := by decide +kernel
theorem dX9_nextOf_11 : decode cX9_nextOf 11 = .ok (.iconst 1, 1) := by decide +kernel
theorem dX9_nextOf_12 : decode cX9_nextOf 12 = .ok (.iadd, 1) := by decide +kernel
theorem dX9_nextOf_13 : decode cX9_nextOf 13 = .ok (.ireturn, 1) := by decide +kernel
set_option maxRecDepth 20000 in
theorem ggX9_keepsSo_X9_mayPlant : GoodIn wsX9_keepsSo wsX9_mayPlant := goodIn_r _ [6, 7, 8, 9, 10, 5, 11, 12, 13, 63, 64, 65, 66, 67, 68, 69, 70, 71, 72, 73, 74, 75, 76, 77, 78, 79, 80, 81, 82, 83, 84, 85, 86, 87, 88, 89, 90, 91, 92, 93, 94] (by decide +kernel) (by decide +kernel)
set_option maxRecDepth 20000 in
theorem gX9_keepsSo_X9_mayPlant : GoodIn wsX9_keepsSo (wsV RX9 244 RX9 yX9_mayPlant wsX9_mayPlant) := goodIn_app (goodIn_of _ (by decide +kernel)) ggX9_keepsSo_X9_mayPlant
set_option maxRecDepth 20000 in
theorem ggX9_keepsSo_X9_plantTried : GoodIn wsX9_keepsSo wsX9_plantTried := goodIn_r _ [17, 1, 7, 63, 64, 65, 66, 67, 68, 69, 70, 71, 72, 73, 74, 75, 76, 77, 78, 79, 80, 81, 82, 83, 84, 85, 86, 87, 88, 89, 90, 91, 92, 93, 94] (by decide +kernel) (by decide +kernel)
set_option maxRecDepth 20000 in
theorem gX9_keepsSo_X9_plantTried : GoodIn wsX9_keepsSo (wsV RX9 247 RX9 yX9_plantTried wsX9_plantTried) := goodIn_app (goodIn_of _ (by decide +kernel)) ggX9_keepsSo_X9_plantTried
set_option maxRecDepth 20000 in
theorem ggX9_keepsSo_X9_isOwn : GoodIn wsX9_keepsSo wsX9_isOwn := goodIn_r _ [21, 12, 22, 23, 24, 25, 26, 27, 28, 5, 29, 13, 30, 31, 32, 33, 7, 34, 35, 36, 37, 38, 39, 40, 41, 42, 43, 44, 45, 46, 47, 48, 49, 50, 51, 52, 53, 54, 55, 56, 57, 58, 59, 60, 61, 62, 63, 64, 65, 66, 67, 68, 69, 70, 71, 72, 73, 74, 75, 76, 77, 78, 79, 80, 81, 82, 83, 84, 85, 86, 87, 88, 89, 90, 91, 92, 93, 94] (by decide +kernel) (by decide +kernel)
set_option maxRecDepth 20000 in
theorem gX9_keepsSo_X9_isOwn : GoodIn wsX9_keepsSo (wsV RX9 251 RX9 yX9_isOwn wsX9_isOwn) := goodIn_app (goodIn_of _ (by decide +kernel)) ggX9_keepsSo_X9_isOwn
theorem dX9_keepsSo_0 : decode cX9_keepsSo 0 = .ok (.aload_n 0, 1) := by decide +kernel
theorem dX9_keepsSo_1 : decode cX9_keepsSo 1 = .ok (.getfield 57, 3) := by decide +kernel
theorem dX9_keepsSo_4 : decode cX9_keepsSo 4 = .ok (.iconst 0, 1) := by decide +kernel
theorem dX9_keepsSo_5 : decode cX9_keepsSo 5 = .ok (.iload_n 1, 1) := by decide +kernel
theorem dX9_keepsSo_6 : decode cX9_keepsSo 6 = .ok (.iastore, 1) := by decide +kernel
theorem dX9_keepsSo_7 : decode cX9_keepsSo 7 = .ok (.aload_n 0, 1) := by decide +kernel
theorem dX9_keepsSo_8 : decode cX9_keepsSo 8 = .ok (.getfield 57, 3) := by decide +kernel
theorem dX9_keepsSo_11 : decode cX9_keepsSo 11 = .ok (.iconst 1, 1) := by decide +kernel
theorem dX9_keepsSo_12 : decode cX9_keepsSo 12 = .ok (.iload_n 2, 1) := by decide +kernel
theorem dX9_keepsSo_13 : decode cX9_keepsSo 13 = .ok (.iastore, 1) := by decide +kernel
theorem dX9_keepsSo_14 : decode cX9_keepsSo 14 = .ok (.aload_n 0, 1) := by decide +kernel
theorem dX9_keepsSo_15 : decode cX9_keepsSo 15 = .ok (.getfield 57, 3) := by decide +kernel
theorem dX9_keepsSo_18 : decode cX9_keepsSo 18 = .ok (.iconst 2, 1) := by decide +kernel
theorem dX9_keepsSo_19 : decode cX9_keepsSo 19 = .ok (.iload_n 3, 1) := by decide +kernel
theorem dX9_keepsSo_20 : decode cX9_keepsSo 20 = .ok (.iastore, 1) := by decide +kernel
theorem dX9_keepsSo_21 : decode cX9_keepsSo 21 = .ok (.iconst 0, 1) := by decide +kernel
theorem dX9_keepsSo_22 : decode cX9_keepsSo 22 = .ok (.istore 7, 2) := by decide +kernel
theorem dX9_keepsSo_24 : decode cX9_keepsSo 24 = .ok (.iload 7, 2) := by decide +kernel
theorem dX9_keepsSo_26 : decode cX9_keepsSo 26 = .ok (.iconst 3, 1) := by decide +kernel
theorem dX9_keepsSo_27 : decode cX9_keepsSo 27 = .ok (.if_icmp .ge 39, 3) := by decide +kernel
theorem dX9_keepsSo_30 : decode cX9_keepsSo 30 = .ok (.aload_n 0, 1) := by decide +kernel
theorem dX9_keepsSo_31 : decode cX9_keepsSo 31 = .ok (.getfield 57, 3) := by decide +kernel
theorem dX9_keepsSo_34 : decode cX9_keepsSo 34 = .ok (.iload 7, 2) := by decide +kernel
theorem dX9_keepsSo_36 : decode cX9_keepsSo 36 = .ok (.iaload, 1) := by decide +kernel
theorem dX9_keepsSo_37 : decode cX9_keepsSo 37 = .ok (.bipush (-9), 2) := by decide +kernel
theorem dX9_keepsSo_39 : decode cX9_keepsSo 39 = .ok (.if_icmp .eq 21, 3) := by decide +kernel
theorem dX9_keepsSo_42 : decode cX9_keepsSo 42 = .ok (.aload_n 0, 1) := by decide +kernel
theorem dX9_keepsSo_43 : decode cX9_keepsSo 43 = .ok (.aload_n 0, 1) := by decide +kernel
theorem dX9_keepsSo_44 : decode cX9_keepsSo 44 = .ok (.getfield 57, 3) := by decide +kernel
theorem dX9_keepsSo_47 : decode cX9_keepsSo 47 = .ok (.iload 7, 2) := by decide +kernel
theorem dX9_keepsSo_49 : decode cX9_keepsSo 49 = .ok (.iaload, 1) := by decide +kernel
theorem dX9_keepsSo_50 : decode cX9_keepsSo 50 = .ok (.iload 5, 2) := by decide +kernel
theorem dX9_keepsSo_52 : decode cX9_keepsSo 52 = .ok (.invokevirtual 244, 3) := by decide +kernel
theorem dX9_keepsSo_55 : decode cX9_keepsSo 55 = .ok (.ifCond .ne 5, 3) := by decide +kernel
theorem dX9_keepsSo_58 : decode cX9_keepsSo 58 = .ok (.iconst 0, 1) := by decide +kernel
theorem dX9_keepsSo_59 : decode cX9_keepsSo 59 = .ok (.ireturn, 1) := by decide +kernel
theorem dX9_keepsSo_60 : decode cX9_keepsSo 60 = .ok (.iinc 7 1, 3) := by decide +kernel
theorem dX9_keepsSo_63 : decode cX9_keepsSo 63 = .ok (.goto (-39), 3) := by decide +kernel
theorem dX9_keepsSo_66 : decode cX9_keepsSo 66 = .ok (.aload_n 0, 1) := by decide +kernel
theorem dX9_keepsSo_67 : decode cX9_keepsSo 67 = .ok (.iconst 1, 1) := by decide +kernel
theorem dX9_keepsSo_68 : decode cX9_keepsSo 68 = .ok (.invokevirtual 247, 3) := by decide +kernel
theorem dX9_keepsSo_71 : decode cX9_keepsSo 71 = .ok (.aload_n 0, 1) := by decide +kernel
theorem dX9_keepsSo_72 : decode cX9_keepsSo 72 = .ok (.iload 4, 2) := by decide +kernel
theorem dX9_keepsSo_74 : decode cX9_keepsSo 74 = .ok (.iload 5, 2) := by decide +kernel
theorem dX9_keepsSo_76 : decode cX9_keepsSo 76 = .ok (.iload 6, 2) := by decide +kernel
theorem dX9_keepsSo_78 : decode cX9_keepsSo 78 = .ok (.invokevirtual 251, 3) := by decide +kernel
theorem dX9_keepsSo_81 : decode cX9_keepsSo 81 = .ok (.istore 7, 2) := by decide +kernel
theorem dX9_keepsSo_83 : decode cX9_keepsSo 83 = .ok (.aload_n 0, 1) := by decide +kernel
theorem dX9_keepsSo_84 : decode cX9_keepsSo 84 = .ok (.iconst 0, 1) := by decide +kernel
theorem dX9_keepsSo_85 : decode cX9_keepsSo 85 = .ok (.invokevirtual 247, 3) := by decide +kernel
theorem dX9_keepsSo_88 : decode cX9_keepsSo 88 = .ok (.iload 7, 2) := by decide +kernel
theorem dX9_keepsSo_90 : decode cX9_keepsSo 90 = .ok (.ireturn, 1) := by decide +kernel
theorem dX9_plantTried_0 : decode cX9_plantTried 0 = .ok (.iconst 0, 1) := by decide +kernel
theorem dX9_plantTried_1 : decode cX9_plantTried 1 = .ok (.istore_n 2, 1) := by decide +kernel
theorem dX9_plantTried_2 : decode cX9_plantTried 2 = .ok (.iload_n 2, 1) := by decide +kernel
theorem dX9_plantTried_3 : decode cX9_plantTried 3 = .ok (.iconst 3, 1) := by decide +kernel
theorem dX9_plantTried_4 : decode cX9_plantTried 4 = .ok (.if_icmp .ge 32, 3) := by decide +kernel
theorem dX9_plantTried_7 : decode cX9_plantTried 7 = .ok (.aload_n 0, 1) := by decide +kernel
theorem dX9_plantTried_8 : decode cX9_plantTried 8 = .ok (.getfield 57, 3) := by decide +kernel
theorem dX9_plantTried_11 : decode cX9_plantTried 11 = .ok (.iload_n 2, 1) := by decide +kernel
theorem dX9_plantTried_12 : decode cX9_plantTried 12 = .ok (.iaload, 1) := by decide +kernel
theorem dX9_plantTried_13 : decode cX9_plantTried 13 = .ok (.bipush (-9), 2) := by decide +kernel
theorem dX9_plantTried_15 : decode cX9_plantTried 15 = .ok (.if_icmp .eq 15, 3) := by decide +kernel
theorem dX9_plantTried_18 : decode cX9_plantTried 18 = .ok (.aload_n 0, 1) := by decide +kernel
theorem dX9_plantTried_19 : decode cX9_plantTried 19 = .ok (.getfield 22, 3) := by decide +kernel
theorem dX9_plantTried_22 : decode cX9_plantTried 22 = .ok (.aload_n 0, 1) := by decide +kernel
theorem dX9_plantTried_23 : decode cX9_plantTried 23 = .ok (.getfield 57, 3) := by decide +kernel
theorem dX9_plantTried_26 : decode cX9_plantTried 26 = .ok (.iload_n 2, 1) := by decide +kernel
theorem dX9_plantTried_27 : decode cX9_plantTried 27 = .ok (.iaload, 1) := by decide +kernel
theorem dX9_plantTried_28 : decode cX9_plantTried 28 = .ok (.iload_n 1, 1) := by decide +kernel
theorem dX9_plantTried_29 : decode cX9_plantTried 29 = .ok (.bastore, 1) := by decide +kernel
theorem dX9_plantTried_30 : decode cX9_plantTried 30 = .ok (.iinc 2 1, 3) := by decide +kernel
theorem dX9_plantTried_33 : decode cX9_plantTried 33 = .ok (.goto (-31), 3) := by decide +kernel
theorem dX9_plantTried_36 : decode cX9_plantTried 36 = .ok (.return_, 1) := by decide +kernel
set_option maxRecDepth 20000 in
theorem ggX9_keep_X9_isBell : GoodIn wsX9_keep wsX9_isBell := goodIn_r _ [6, 7, 93, 94, 95, 96, 97, 98, 99, 100, 101, 102, 103, 104, 105, 106, 107, 108, 109, 110, 111, 112, 113, 114, 115, 116, 117, 118, 119, 120, 121, 122, 123, 124] (by decide +kernel) (by decide +kernel)
set_option maxRecDepth 20000 in
theorem gX9_keep_X9_isBell : GoodIn wsX9_keep (wsV RX9 145 RX9 yX9_isBell wsX9_isBell) := goodIn_app (goodIn_of _ (by decide +kernel)) ggX9_keep_X9_isBell
set_option maxRecDepth 20000 in
theorem ggX9_keep_X9_isCell : GoodIn wsX9_keep wsX9_isCell := goodIn_r _ [11, 12, 13, 14, 5, 15, 16, 17, 93, 94, 95, 96, 97, 98, 99, 100, 101, 102, 103, 104, 105, 106, 107, 108, 109, 110, 111, 112, 113, 114, 115, 116, 117, 118, 119, 120, 121, 122, 123, 124] (by decide +kernel) (by decide +kernel)
set_option maxRecDepth 20000 in
theorem gX9_keep_X9_isCell : GoodIn wsX9_keep (wsV RX9 133 RX9 yX9_isCell wsX9_isCell) := goodIn_app (goodIn_of _ (by decide +kernel)) ggX9_keep_X9_isCell
set_option maxRecDepth 20000 in
theorem ggX9_keep_X9_isWind : GoodIn wsX9_keep wsX9_isWind := goodIn_r _ [20, 21, 22, 5, 23] (by decide +kernel) (by decide +kernel)
set_option maxRecDepth 20000 in
theorem gX9_keep_X9_isWind : GoodIn wsX9_keep (va_wsS RX9 169 yX9_isWind wsX9_isWind) := goodIn_app (goodIn_of _ (by decide +kernel)) ggX9_keep_X9_isWind
set_option maxRecDepth 20000 in
theorem ggX9_keep_X9_within : GoodIn wsX9_keep wsX9_within := goodIn_r _ [23] (by decide +kernel) (by decide +kernel)
set_option maxRecDepth 20000 in
theorem gX9_keep_X9_within : GoodIn wsX9_keep (va_wsS RX9 75 yX9_within wsX9_within) := goodIn_app (goodIn_of _ (by decide +kernel)) ggX9_keep_X9_within
set_option maxRecDepth 20000 in
theorem ggX9_keep_X9_keepsBy : GoodIn wsX9_keep wsX9_keepsBy := goodIn_r _ [27, 12, 13, 14, 5, 15, 16, 17, 28, 29, 30, 31, 1, 32, 33, 34, 35, 36, 37, 38, 39, 40, 7, 41, 42, 43, 44, 45, 46, 47, 48, 49, 50, 51, 52, 53, 54, 55, 56, 57, 58, 59, 60, 61, 62, 63, 64, 65, 66, 67, 68, 69, 70, 71, 72, 73, 74, 75, 76, 77, 78, 79, 80, 81, 82, 83, 84, 85, 86, 87, 88, 89, 90, 91, 92, 93, 94, 95, 96, 97, 98, 99, 100, 101, 102, 103, 104, 105, 106, 107, 108, 109, 110, 111, 112, 113, 114, 115, 116, 117, 118, 119, 120, 121, 122, 123, 124] (by decide +kernel) (by decide +kernel)
set_option maxRecDepth 20000 in
theorem gX9_keep_X9_keepsBy : GoodIn wsX9_keep (wsV RX9 254 RX9 yX9_keepsBy wsX9_keepsBy) := goodIn_app (goodIn_of _ (by decide +kernel)) ggX9_keep_X9_keepsBy
theorem dX9_keep_0 : decode cX9_keep 0 = .ok (.aload_n 0, 1) := by decide +kernel
theorem dX9_keep_1 : decode cX9_keep 1 = .ok (.iload_n 1, 1) := by decide +kernel
theorem dX9_keep_2 : decode cX9_keep 2 = .ok (.invokevirtual 145, 3) := by decide +kernel
theorem dX9_keep_5 : decode cX9_keep 5 = .ok (.ifCond .eq 11, 3) := by decide +kernel
theorem dX9_keep_8 : decode cX9_keep 8 = .ok (.aload_n 0, 1) := by decide +kernel
theorem dX9_keep_9 : decode cX9_keep 9 = .ok (.iload_n 2, 1) := by decide +kernel
theorem dX9_keep_10 : decode cX9_keep 10 = .ok (.invokevirtual 133, 3) := by decide +kernel
theorem dX9_keep_13 : decode cX9_keep 13 = .ok (.ifCond .ne 5, 3) := by decide +kernel
theorem dX9_keep_16 : decode cX9_keep 16 = .ok (.iconst (-1), 1) := by decide +kernel
theorem dX9_keep_17 : decode cX9_keep 17 = .ok (.ireturn, 1) := by decide +kernel
theorem dX9_keep_18 : decode cX9_keep 18 = .ok (.iload_n 3, 1) := by decide +kernel
theorem dX9_keep_19 : decode cX9_keep 19 = .ok (.invokestatic 169, 3) := by decide +kernel
theorem dX9_keep_22 : decode cX9_keep 22 = .ok (.ifCond .ne 6, 3) := by decide +kernel
theorem dX9_keep_25 : decode cX9_keep 25 = .ok (.bipush (-2), 2) := by decide +kernel
theorem dX9_keep_27 : decode cX9_keep 27 = .ok (.ireturn, 1) := by decide +kernel
theorem dX9_keep_28 : decode cX9_keep 28 = .ok (.iload 4, 2) := by decide +kernel
theorem dX9_keep_30 : decode cX9_keep 30 = .ok (.iconst (-1), 1) := by decide +kernel
theorem dX9_keep_31 : decode cX9_keep 31 = .ok (.iconst 2, 1) := by decide +kernel
theorem dX9_keep_32 : decode cX9_keep 32 = .ok (.invokestatic 75, 3) := by decide +kernel
theorem dX9_keep_35 : decode cX9_keep 35 = .ok (.ifCond .ne 5, 3) := by decide +kernel
theorem dX9_keep_38 : decode cX9_keep 38 = .ok (.iconst (-1), 1) := by decide +kernel
theorem dX9_keep_39 : decode cX9_keep 39 = .ok (.ireturn, 1) := by decide +kernel
theorem dX9_keep_40 : decode cX9_keep 40 = .ok (.iconst 0, 1) := by decide +kernel
theorem dX9_keep_41 : decode cX9_keep 41 = .ok (.istore 5, 2) := by decide +kernel
theorem dX9_keep_43 : decode cX9_keep 43 = .ok (.iload 5, 2) := by decide +kernel
theorem dX9_keep_45 : decode cX9_keep 45 = .ok (.iconst 3, 1) := by decide +kernel
theorem dX9_keep_46 : decode cX9_keep 46 = .ok (.if_icmp .gt 52, 3) := by decide +kernel
theorem dX9_keep_49 : decode cX9_keep 49 = .ok (.aload_n 0, 1) := by decide +kernel
theorem dX9_keep_50 : decode cX9_keep 50 = .ok (.iload 5, 2) := by decide +kernel
theorem dX9_keep_52 : decode cX9_keep 52 = .ok (.iload_n 1, 1) := by decide +kernel
theorem dX9_keep_53 : decode cX9_keep 53 = .ok (.iload_n 2, 1) := by decide +kernel
theorem dX9_keep_54 : decode cX9_keep 54 = .ok (.iload_n 3, 1) := by decide +kernel
theorem dX9_keep_55 : decode cX9_keep 55 = .ok (.invokevirtual 254, 3) := by decide +kernel
theorem dX9_keep_58 : decode cX9_keep 58 = .ok (.ifCond .eq 34, 3) := by decide +kernel
theorem dX9_keep_61 : decode cX9_keep 61 = .ok (.iload 4, 2) := by decide +kernel
theorem dX9_keep_63 : decode cX9_keep 63 = .ok (.iconst (-1), 1) := by decide +kernel
theorem dX9_keep_64 : decode cX9_keep 64 = .ok (.if_icmp .ne 8, 3) := by decide +kernel
theorem dX9_keep_67 : decode cX9_keep 67 = .ok (.iload 5, 2) := by decide +kernel
theorem dX9_keep_69 : decode cX9_keep 69 = .ok (.goto 22, 3) := by decide +kernel
theorem dX9_keep_72 : decode cX9_keep 72 = .ok (.iload 4, 2) := by decide +kernel
theorem dX9_keep_74 : decode cX9_keep 74 = .ok (.iload 5, 2) := by decide +kernel
theorem dX9_keep_76 : decode cX9_keep 76 = .ok (.if_icmp .ge 13, 3) := by decide +kernel
theorem dX9_keep_79 : decode cX9_keep 79 = .ok (.aload_n 0, 1) := by decide +kernel
theorem dX9_keep_80 : decode cX9_keep 80 = .ok (.getfield 57, 3) := by decide +kernel
theorem dX9_keep_83 : decode cX9_keep 83 = .ok (.iload 4, 2) := by decide +kernel
theorem dX9_keep_85 : decode cX9_keep 85 = .ok (.iaload, 1) := by decide +kernel
theorem dX9_keep_86 : decode cX9_keep 86 = .ok (.goto 5, 3) := by decide +kernel
theorem dX9_keep_89 : decode cX9_keep 89 = .ok (.bipush (-9), 2) := by decide +kernel
theorem dX9_keep_91 : decode cX9_keep 91 = .ok (.ireturn, 1) := by decide +kernel
theorem dX9_keep_92 : decode cX9_keep 92 = .ok (.iinc 5 1, 3) := by decide +kernel
theorem dX9_keep_95 : decode cX9_keep 95 = .ok (.goto (-52), 3) := by decide +kernel
theorem dX9_keep_98 : decode cX9_keep 98 = .ok (.bipush (-9), 2) := by decide +kernel
theorem dX9_keep_100 : decode cX9_keep 100 = .ok (.ireturn, 1) := by decide +kernel
set_option maxRecDepth 20000 in
theorem ggX9_layClashes_X9_all : GoodIn wsX9_layClashes wsX9_all := goodIn_r _ [7, 8, 9, 19, 20, 21, 22, 23, 24, 25, 26, 27, 28, 29, 30, 31, 32, 33, 34, 35, 36, 37, 38, 39, 40, 41, 42, 43, 44, 45, 46, 47, 48, 49, 50] (by decide +kernel) (by decide +kernel)
set_option maxRecDepth 20000 in
theorem gX9_layClashes_X9_all : GoodIn wsX9_layClashes (wsV RX9 85 RX9 yX9_all wsX9_all) := goodIn_app (goodIn_of _ (by decide +kernel)) ggX9_layClashes_X9_all
set_option maxRecDepth 20000 in
theorem ggX9_layClashes_X9_isHeard : GoodIn wsX9_layClashes wsX9_isHeard := goodIn_r _ [13, 14, 15, 16, 17, 18, 19, 20, 21, 22, 23, 24, 25, 26, 27, 28, 29, 30, 31, 32, 33, 34, 35, 36, 37, 38, 39, 40, 41, 42, 43, 44, 45, 46, 47, 48, 49, 50] (by decide +kernel) (by decide +kernel)
set_option maxRecDepth 20000 in
theorem gX9_layClashes_X9_isHeard : GoodIn wsX9_layClashes (wsV RX9 194 RX9 yX9_isHeard wsX9_isHeard) := goodIn_app (goodIn_of _ (by decide +kernel)) ggX9_layClashes_X9_isHeard
theorem dX9_layClashes_0 : decode cX9_layClashes 0 = .ok (.iconst 0, 1) := by decide +kernel
theorem dX9_layClashes_1 : decode cX9_layClashes 1 = .ok (.istore_n 1, 1) := by decide +kernel
theorem dX9_layClashes_2 : decode cX9_layClashes 2 = .ok (.iload_n 1, 1) := by decide +kernel
theorem dX9_layClashes_3 : decode cX9_layClashes 3 = .ok (.aload_n 0, 1) := by decide +kernel
theorem dX9_layClashes_4 : decode cX9_layClashes 4 = .ok (.getfield 116, 3) := by decide +kernel
theorem dX9_layClashes_7 : decode cX9_layClashes 7 = .ok (.if_icmp .ge 92, 3) := by decide +kernel
theorem dX9_layClashes_10 : decode cX9_layClashes 10 = .ok (.iconst 0, 1) := by decide +kernel
theorem dX9_layClashes_11 : decode cX9_layClashes 11 = .ok (.istore_n 2, 1) := by decide +kernel
theorem dX9_layClashes_12 : decode cX9_layClashes 12 = .ok (.iload_n 2, 1) := by decide +kernel
theorem dX9_layClashes_13 : decode cX9_layClashes 13 = .ok (.aload_n 0, 1) := by decide +kernel
theorem dX9_layClashes_14 : decode cX9_layClashes 14 = .ok (.getfield 116, 3) := by decide +kernel
theorem dX9_layClashes_17 : decode cX9_layClashes 17 = .ok (.if_icmp .ge 76, 3) := by decide +kernel
theorem dX9_layClashes_20 : decode cX9_layClashes 20 = .ok (.iconst 0, 1) := by decide +kernel
theorem dX9_layClashes_21 : decode cX9_layClashes 21 = .ok (.istore_n 3, 1) := by decide +kernel
theorem dX9_layClashes_22 : decode cX9_layClashes 22 = .ok (.iconst 0, 1) := by decide +kernel
theorem dX9_layClashes_23 : decode cX9_layClashes 23 = .ok (.istore 4, 2) := by decide +kernel
theorem dX9_layClashes_25 : decode cX9_layClashes 25 = .ok (.iload 4, 2) := by decide +kernel
theorem dX9_layClashes_27 : decode cX9_layClashes 27 = .ok (.aload_n 0, 1) := by decide +kernel
theorem dX9_layClashes_28 : decode cX9_layClashes 28 = .ok (.invokevirtual 85, 3) := by decide +kernel
theorem dX9_layClashes_31 : decode cX9_layClashes 31 = .ok (.if_icmp .ge 44, 3) := by decide +kernel
theorem dX9_layClashes_34 : decode cX9_layClashes 34 = .ok (.iload_n 1, 1) := by decide +kernel
theorem dX9_layClashes_35 : decode cX9_layClashes 35 = .ok (.iload_n 2, 1) := by decide +kernel
theorem dX9_layClashes_36 : decode cX9_layClashes 36 = .ok (.if_icmp .eq 39, 3) := by decide +kernel
theorem dX9_layClashes_39 : decode cX9_layClashes 39 = .ok (.iload_n 3, 1) := by decide +kernel
theorem dX9_layClashes_40 : decode cX9_layClashes 40 = .ok (.ifCond .ne 23, 3) := by decide +kernel
theorem dX9_layClashes_43 : decode cX9_layClashes 43 = .ok (.aload_n 0, 1) := by decide +kernel
theorem dX9_layClashes_44 : decode cX9_layClashes 44 = .ok (.iload_n 1, 1) := by decide +kernel
theorem dX9_layClashes_45 : decode cX9_layClashes 45 = .ok (.iload 4, 2) := by decide +kernel
theorem dX9_layClashes_47 : decode cX9_layClashes 47 = .ok (.invokevirtual 194, 3) := by decide +kernel
theorem dX9_layClashes_50 : decode cX9_layClashes 50 = .ok (.ifCond .eq 17, 3) := by decide +kernel
theorem dX9_layClashes_53 : decode cX9_layClashes 53 = .ok (.aload_n 0, 1) := by decide +kernel
theorem dX9_layClashes_54 : decode cX9_layClashes 54 = .ok (.iload_n 2, 1) := by decide +kernel
theorem dX9_layClashes_55 : decode cX9_layClashes 55 = .ok (.iload 4, 2) := by decide +kernel
theorem dX9_layClashes_57 : decode cX9_layClashes 57 = .ok (.invokevirtual 194, 3) := by decide +kernel
theorem dX9_layClashes_60 : decode cX9_layClashes 60 = .ok (.ifCond .eq 7, 3) := by decide +kernel
theorem dX9_layClashes_63 : decode cX9_layClashes 63 = .ok (.iconst 1, 1) := by decide +kernel
theorem dX9_layClashes_64 : decode cX9_layClashes 64 = .ok (.goto 4, 3) := by decide +kernel
theorem dX9_layClashes_67 : decode cX9_layClashes 67 = .ok (.iconst 0, 1) := by decide +kernel
theorem dX9_layClashes_68 : decode cX9_layClashes 68 = .ok (.istore_n 3, 1) := by decide +kernel
theorem dX9_layClashes_69 : decode cX9_layClashes 69 = .ok (.iinc 4 1, 3) := by decide +kernel
theorem dX9_layClashes_72 : decode cX9_layClashes 72 = .ok (.goto (-47), 3) := by decide +kernel
theorem dX9_layClashes_75 : decode cX9_layClashes 75 = .ok (.aload_n 0, 1) := by decide +kernel
theorem dX9_layClashes_76 : decode cX9_layClashes 76 = .ok (.getfield 60, 3) := by decide +kernel
theorem dX9_layClashes_79 : decode cX9_layClashes 79 = .ok (.bipush 6, 2) := by decide +kernel
theorem dX9_layClashes_81 : decode cX9_layClashes 81 = .ok (.iload_n 1, 1) := by decide +kernel
theorem dX9_layClashes_82 : decode cX9_layClashes 82 = .ok (.imul, 1) := by decide +kernel
theorem dX9_layClashes_83 : decode cX9_layClashes 83 = .ok (.iload_n 2, 1) := by decide +kernel
theorem dX9_layClashes_84 : decode cX9_layClashes 84 = .ok (.iadd, 1) := by decide +kernel
theorem dX9_layClashes_85 : decode cX9_layClashes 85 = .ok (.iload_n 3, 1) := by decide +kernel
theorem dX9_layClashes_86 : decode cX9_layClashes 86 = .ok (.bastore, 1) := by decide +kernel
theorem dX9_layClashes_87 : decode cX9_layClashes 87 = .ok (.iinc 2 1, 3) := by decide +kernel
theorem dX9_layClashes_90 : decode cX9_layClashes 90 = .ok (.goto (-78), 3) := by decide +kernel
theorem dX9_layClashes_93 : decode cX9_layClashes 93 = .ok (.iinc 1 1, 3) := by decide +kernel
theorem dX9_layClashes_96 : decode cX9_layClashes 96 = .ok (.goto (-94), 3) := by decide +kernel
theorem dX9_layClashes_99 : decode cX9_layClashes 99 = .ok (.return_, 1) := by decide +kernel
theorem dX9_mayRing_0 : decode cX9_mayRing 0 = .ok (.iconst 0, 1) := by decide +kernel
theorem dX9_mayRing_1 : decode cX9_mayRing 1 = .ok (.istore_n 3, 1) := by decide +kernel
theorem dX9_mayRing_2 : decode cX9_mayRing 2 = .ok (.iload_n 3, 1) := by decide +kernel
theorem dX9_mayRing_3 : decode cX9_mayRing 3 = .ok (.iload_n 1, 1) := by decide +kernel
theorem dX9_mayRing_4 : decode cX9_mayRing 4 = .ok (.if_icmp .ge 35, 3) := by decide +kernel
theorem dX9_mayRing_7 : decode cX9_mayRing 7 = .ok (.aload_n 0, 1) := by decide +kernel
theorem dX9_mayRing_8 : decode cX9_mayRing 8 = .ok (.getfield 63, 3) := by decide +kernel
theorem dX9_mayRing_11 : decode cX9_mayRing 11 = .ok (.iload_n 3, 1) := by decide +kernel
theorem dX9_mayRing_12 : decode cX9_mayRing 12 = .ok (.iaload, 1) := by decide +kernel
theorem dX9_mayRing_13 : decode cX9_mayRing 13 = .ok (.iload_n 2, 1) := by decide +kernel
theorem dX9_mayRing_14 : decode cX9_mayRing 14 = .ok (.if_icmp .ne 19, 3) := by decide +kernel
theorem dX9_mayRing_17 : decode cX9_mayRing 17 = .ok (.aload_n 0, 1) := by decide +kernel
theorem dX9_mayRing_18 : decode cX9_mayRing 18 = .ok (.getfield 60, 3) := by decide +kernel
theorem dX9_mayRing_21 : decode cX9_mayRing 21 = .ok (.bipush 6, 2) := by decide +kernel
theorem dX9_mayRing_23 : decode cX9_mayRing 23 = .ok (.iload_n 3, 1) := by decide +kernel
theorem dX9_mayRing_24 : decode cX9_mayRing 24 = .ok (.imul, 1) := by decide +kernel
theorem dX9_mayRing_25 : decode cX9_mayRing 25 = .ok (.iload_n 1, 1) := by decide +kernel
theorem dX9_mayRing_26 : decode cX9_mayRing 26 = .ok (.iadd, 1) := by decide +kernel
theorem dX9_mayRing_27 : decode cX9_mayRing 27 = .ok (.baload, 1) := by decide +kernel
theorem dX9_mayRing_28 : decode cX9_mayRing 28 = .ok (.ifCond .eq 5, 3) := by decide +kernel
theorem dX9_mayRing_31 : decode cX9_mayRing 31 = .ok (.iconst 0, 1) := by decide +kernel
theorem dX9_mayRing_32 : decode cX9_mayRing 32 = .ok (.ireturn, 1) := by decide +kernel
theorem dX9_mayRing_33 : decode cX9_mayRing 33 = .ok (.iinc 3 1, 3) := by decide +kernel
theorem dX9_mayRing_36 : decode cX9_mayRing 36 = .ok (.goto (-34), 3) := by decide +kernel
theorem dX9_mayRing_39 : decode cX9_mayRing 39 = .ok (.iconst 1, 1) := by decide +kernel
theorem dX9_mayRing_40 : decode cX9_mayRing 40 = .ok (.ireturn, 1) := by decide +kernel
set_option maxRecDepth 20000 in
theorem ggX9_areTurns_X9_mayRing : GoodIn wsX9_areTurns wsX9_mayRing := goodIn_r _ [7, 1, 8, 9, 10, 11, 12, 13, 14, 15, 16, 17, 18, 19, 20, 21, 22, 23, 24, 25, 26, 27, 28, 29, 30, 31, 32, 33, 34, 35, 36, 37, 38, 39, 40] (by decide +kernel) (by decide +kernel)
set_option maxRecDepth 20000 in
theorem gX9_areTurns_X9_mayRing : GoodIn wsX9_areTurns (wsV RX9 258 RX9 yX9_mayRing wsX9_mayRing) := goodIn_app (goodIn_of _ (by decide +kernel)) ggX9_areTurns_X9_mayRing
theorem dX9_areTurns_0 : decode cX9_areTurns 0 = .ok (.iconst 0, 1) := by decide +kernel
theorem dX9_areTurns_1 : decode cX9_areTurns 1 = .ok (.istore_n 2, 1) := by decide +kernel
theorem dX9_areTurns_2 : decode cX9_areTurns 2 = .ok (.aload_n 0, 1) := by decide +kernel
theorem dX9_areTurns_3 : decode cX9_areTurns 3 = .ok (.getfield 63, 3) := by decide +kernel
theorem dX9_areTurns_6 : decode cX9_areTurns 6 = .ok (.iconst 0, 1) := by decide +kernel
theorem dX9_areTurns_7 : decode cX9_areTurns 7 = .ok (.iconst (-1), 1) := by decide +kernel
theorem dX9_areTurns_8 : decode cX9_areTurns 8 = .ok (.iastore, 1) := by decide +kernel
theorem dX9_areTurns_9 : decode cX9_areTurns 9 = .ok (.iload_n 2, 1) := by decide +kernel
theorem dX9_areTurns_10 : decode cX9_areTurns 10 = .ok (.ifCond .lt 95, 3) := by decide +kernel
theorem dX9_areTurns_13 : decode cX9_areTurns 13 = .ok (.iload_n 2, 1) := by decide +kernel
theorem dX9_areTurns_14 : decode cX9_areTurns 14 = .ok (.aload_n 0, 1) := by decide +kernel
theorem dX9_areTurns_15 : decode cX9_areTurns 15 = .ok (.getfield 116, 3) := by decide +kernel
theorem dX9_areTurns_18 : decode cX9_areTurns 18 = .ok (.if_icmp .ge 87, 3) := by decide +kernel
theorem dX9_areTurns_21 : decode cX9_areTurns 21 = .ok (.aload_n 0, 1) := by decide +kernel
theorem dX9_areTurns_22 : decode cX9_areTurns 22 = .ok (.getfield 63, 3) := by decide +kernel
theorem dX9_areTurns_25 : decode cX9_areTurns 25 = .ok (.iload_n 2, 1) := by decide +kernel
theorem dX9_areTurns_26 : decode cX9_areTurns 26 = .ok (.dup2, 1) := by decide +kernel
theorem dX9_areTurns_27 : decode cX9_areTurns 27 = .ok (.iaload, 1) := by decide +kernel
theorem dX9_areTurns_28 : decode cX9_areTurns 28 = .ok (.iconst 1, 1) := by decide +kernel
theorem dX9_areTurns_29 : decode cX9_areTurns 29 = .ok (.iadd, 1) := by decide +kernel
theorem dX9_areTurns_30 : decode cX9_areTurns 30 = .ok (.iastore, 1) := by decide +kernel
theorem dX9_areTurns_31 : decode cX9_areTurns 31 = .ok (.aload_n 0, 1) := by decide +kernel
theorem dX9_areTurns_32 : decode cX9_areTurns 32 = .ok (.getfield 63, 3) := by decide +kernel
theorem dX9_areTurns_35 : decode cX9_areTurns 35 = .ok (.iload_n 2, 1) := by decide +kernel
theorem dX9_areTurns_36 : decode cX9_areTurns 36 = .ok (.iaload, 1) := by decide +kernel
theorem dX9_areTurns_37 : decode cX9_areTurns 37 = .ok (.iload_n 1, 1) := by decide +kernel
theorem dX9_areTurns_38 : decode cX9_areTurns 38 = .ok (.if_icmp .ge 30, 3) := by decide +kernel
theorem dX9_areTurns_41 : decode cX9_areTurns 41 = .ok (.aload_n 0, 1) := by decide +kernel
theorem dX9_areTurns_42 : decode cX9_areTurns 42 = .ok (.iload_n 2, 1) := by decide +kernel
theorem dX9_areTurns_43 : decode cX9_areTurns 43 = .ok (.aload_n 0, 1) := by decide +kernel
theorem dX9_areTurns_44 : decode cX9_areTurns 44 = .ok (.getfield 63, 3) := by decide +kernel
theorem dX9_areTurns_47 : decode cX9_areTurns 47 = .ok (.iload_n 2, 1) := by decide +kernel
theorem dX9_areTurns_48 : decode cX9_areTurns 48 = .ok (.iaload, 1) := by decide +kernel
theorem dX9_areTurns_49 : decode cX9_areTurns 49 = .ok (.invokevirtual 258, 3) := by decide +kernel
theorem dX9_areTurns_52 : decode cX9_areTurns 52 = .ok (.ifCond .ne 16, 3) := by decide +kernel
theorem dX9_areTurns_55 : decode cX9_areTurns 55 = .ok (.aload_n 0, 1) := by decide +kernel
theorem dX9_areTurns_56 : decode cX9_areTurns 56 = .ok (.getfield 63, 3) := by decide +kernel
theorem dX9_areTurns_59 : decode cX9_areTurns 59 = .ok (.iload_n 2, 1) := by decide +kernel
theorem dX9_areTurns_60 : decode cX9_areTurns 60 = .ok (.dup2, 1) := by decide +kernel
theorem dX9_areTurns_61 : decode cX9_areTurns 61 = .ok (.iaload, 1) := by decide +kernel
theorem dX9_areTurns_62 : decode cX9_areTurns 62 = .ok (.iconst 1, 1) := by decide +kernel
theorem dX9_areTurns_63 : decode cX9_areTurns 63 = .ok (.iadd, 1) := by decide +kernel
theorem dX9_areTurns_64 : decode cX9_areTurns 64 = .ok (.iastore, 1) := by decide +kernel
theorem dX9_areTurns_65 : decode cX9_areTurns 65 = .ok (.goto (-34), 3) := by decide +kernel
theorem dX9_areTurns_68 : decode cX9_areTurns 68 = .ok (.aload_n 0, 1) := by decide +kernel
theorem dX9_areTurns_69 : decode cX9_areTurns 69 = .ok (.getfield 63, 3) := by decide +kernel
theorem dX9_areTurns_72 : decode cX9_areTurns 72 = .ok (.iload_n 2, 1) := by decide +kernel
theorem dX9_areTurns_73 : decode cX9_areTurns 73 = .ok (.iaload, 1) := by decide +kernel
theorem dX9_areTurns_74 : decode cX9_areTurns 74 = .ok (.iload_n 1, 1) := by decide +kernel
theorem dX9_areTurns_75 : decode cX9_areTurns 75 = .ok (.if_icmp .lt 9, 3) := by decide +kernel
theorem dX9_areTurns_78 : decode cX9_areTurns 78 = .ok (.iinc 2 (-1), 3) := by decide +kernel
theorem dX9_areTurns_81 : decode cX9_areTurns 81 = .ok (.goto (-72), 3) := by decide +kernel
theorem dX9_areTurns_84 : decode cX9_areTurns 84 = .ok (.iinc 2 1, 3) := by decide +kernel
theorem dX9_areTurns_87 : decode cX9_areTurns 87 = .ok (.iload_n 2, 1) := by decide +kernel
theorem dX9_areTurns_88 : decode cX9_areTurns 88 = .ok (.aload_n 0, 1) := by decide +kernel
theorem dX9_areTurns_89 : decode cX9_areTurns 89 = .ok (.getfield 116, 3) := by decide +kernel
theorem dX9_areTurns_92 : decode cX9_areTurns 92 = .ok (.if_icmp .ge (-83), 3) := by decide +kernel
theorem dX9_areTurns_95 : decode cX9_areTurns 95 = .ok (.aload_n 0, 1) := by decide +kernel
theorem dX9_areTurns_96 : decode cX9_areTurns 96 = .ok (.getfield 63, 3) := by decide +kernel
theorem dX9_areTurns_99 : decode cX9_areTurns 99 = .ok (.iload_n 2, 1) := by decide +kernel
theorem dX9_areTurns_100 : decode cX9_areTurns 100 = .ok (.iconst (-1), 1) := by decide +kernel
theorem dX9_areTurns_101 : decode cX9_areTurns 101 = .ok (.iastore, 1) := by decide +kernel
theorem dX9_areTurns_102 : decode cX9_areTurns 102 = .ok (.goto (-93), 3) := by decide +kernel
theorem dX9_areTurns_105 : decode cX9_areTurns 105 = .ok (.iload_n 2, 1) := by decide +kernel
theorem dX9_areTurns_106 : decode cX9_areTurns 106 = .ok (.aload_n 0, 1) := by decide +kernel
theorem dX9_areTurns_107 : decode cX9_areTurns 107 = .ok (.getfield 116, 3) := by decide +kernel
theorem dX9_areTurns_110 : decode cX9_areTurns 110 = .ok (.if_icmp .lt 7, 3) := by decide +kernel
theorem dX9_areTurns_113 : decode cX9_areTurns 113 = .ok (.iconst 1, 1) := by decide +kernel
theorem dX9_areTurns_114 : decode cX9_areTurns 114 = .ok (.goto 4, 3) := by decide +kernel
theorem dX9_areTurns_117 : decode cX9_areTurns 117 = .ok (.iconst 0, 1) := by decide +kernel
theorem dX9_areTurns_118 : decode cX9_areTurns 118 = .ok (.ireturn, 1) := by decide +kernel
set_option maxRecDepth 20000 in
theorem ggX9_turns_X9_isWind : GoodIn wsX9_turns wsX9_isWind := goodIn_r _ [6, 7, 8, 5, 9] (by decide +kernel) (by decide +kernel)
set_option maxRecDepth 20000 in
theorem gX9_turns_X9_isWind : GoodIn wsX9_turns (va_wsS RX9 169 yX9_isWind wsX9_isWind) := goodIn_app (goodIn_of _ (by decide +kernel)) ggX9_turns_X9_isWind
set_option maxRecDepth 20000 in
theorem ggX9_turns_X9_within : GoodIn wsX9_turns wsX9_within := goodIn_r _ [9] (by decide +kernel) (by decide +kernel)
set_option maxRecDepth 20000 in
theorem gX9_turns_X9_within : GoodIn wsX9_turns (va_wsS RX9 75 yX9_within wsX9_within) := goodIn_app (goodIn_of _ (by decide +kernel)) ggX9_turns_X9_within
set_option maxRecDepth 20000 in
theorem ggX9_turns_X9_layLoud : GoodIn wsX9_turns wsX9_layLoud := goodIn_r _ [13, 1, 14, 15, 16, 5, 17, 18, 19, 20, 21, 22, 23, 24, 25, 26, 27, 28, 29, 30, 31, 32, 33, 34, 35, 36, 37, 38, 39, 40, 41, 42, 43, 44, 45, 46, 66, 67, 68, 69, 70, 71, 72, 73, 74, 75, 76, 77, 78, 79, 80, 81, 82, 83, 84, 85, 86, 87, 88, 89, 90, 91, 92, 93, 94, 95, 96, 97] (by decide +kernel) (by decide +kernel)
set_option maxRecDepth 20000 in
theorem gX9_turns_X9_layLoud : GoodIn wsX9_turns (wsV RX9 197 RX9 yX9_layLoud wsX9_layLoud) := goodIn_app (goodIn_of _ (by decide +kernel)) ggX9_turns_X9_layLoud
set_option maxRecDepth 20000 in
theorem ggX9_turns_X9_layClashes : GoodIn wsX9_turns wsX9_layClashes := goodIn_r _ [50, 1, 51, 22, 23, 24, 5, 25, 26, 27, 52, 53, 54, 55, 37, 56, 18, 57, 20, 66, 67, 68, 69, 70, 71, 72, 73, 74, 75, 76, 77, 78, 79, 80, 81, 82, 83, 84, 85, 86, 87, 88, 89, 90, 91, 92, 93, 94, 95, 96, 97] (by decide +kernel) (by decide +kernel)
set_option maxRecDepth 20000 in
theorem gX9_turns_X9_layClashes : GoodIn wsX9_turns (wsV RX9 261 RX9 yX9_layClashes wsX9_layClashes) := goodIn_app (goodIn_of _ (by decide +kernel)) ggX9_turns_X9_layClashes
set_option maxRecDepth 20000 in
theorem ggX9_turns_X9_areTurns : GoodIn wsX9_turns wsX9_areTurns := goodIn_r _ [61, 2, 1, 62, 63, 64, 5, 65, 51, 66, 67, 68, 69, 70, 71, 72, 73, 74, 75, 76, 77, 78, 79, 80, 81, 82, 83, 84, 85, 86, 87, 88, 89, 90, 91, 92, 93, 94, 95, 96, 97] (by decide +kernel) (by decide +kernel)
set_option maxRecDepth 20000 in
theorem gX9_turns_X9_areTurns : GoodIn wsX9_turns (wsV RX9 264 RX9 yX9_areTurns wsX9_areTurns) := goodIn_app (goodIn_of _ (by decide +kernel)) ggX9_turns_X9_areTurns
theorem dX9_turns_0 : decode cX9_turns 0 = .ok (.iload_n 1, 1) := by decide +kernel
theorem dX9_turns_1 : decode cX9_turns 1 = .ok (.invokestatic 169, 3) := by decide +kernel
theorem dX9_turns_4 : decode cX9_turns 4 = .ok (.ifCond .ne 6, 3) := by decide +kernel
theorem dX9_turns_7 : decode cX9_turns 7 = .ok (.bipush (-2), 2) := by decide +kernel
theorem dX9_turns_9 : decode cX9_turns 9 = .ok (.ireturn, 1) := by decide +kernel
theorem dX9_turns_10 : decode cX9_turns 10 = .ok (.iload_n 2, 1) := by decide +kernel
theorem dX9_turns_11 : decode cX9_turns 11 = .ok (.iconst (-1), 1) := by decide +kernel
theorem dX9_turns_12 : decode cX9_turns 12 = .ok (.aload_n 0, 1) := by decide +kernel
theorem dX9_turns_13 : decode cX9_turns 13 = .ok (.getfield 116, 3) := by decide +kernel
theorem dX9_turns_16 : decode cX9_turns 16 = .ok (.iconst 1, 1) := by decide +kernel
theorem dX9_turns_17 : decode cX9_turns 17 = .ok (.isub, 1) := by decide +kernel
theorem dX9_turns_18 : decode cX9_turns 18 = .ok (.invokestatic 75, 3) := by decide +kernel
theorem dX9_turns_21 : decode cX9_turns 21 = .ok (.ifCond .ne 5, 3) := by decide +kernel
theorem dX9_turns_24 : decode cX9_turns 24 = .ok (.iconst (-1), 1) := by decide +kernel
theorem dX9_turns_25 : decode cX9_turns 25 = .ok (.ireturn, 1) := by decide +kernel
theorem dX9_turns_26 : decode cX9_turns 26 = .ok (.aload_n 0, 1) := by decide +kernel
theorem dX9_turns_27 : decode cX9_turns 27 = .ok (.getfield 116, 3) := by decide +kernel
theorem dX9_turns_30 : decode cX9_turns 30 = .ok (.ifCond .ne 5, 3) := by decide +kernel
theorem dX9_turns_33 : decode cX9_turns 33 = .ok (.iconst 0, 1) := by decide +kernel
theorem dX9_turns_34 : decode cX9_turns 34 = .ok (.ireturn, 1) := by decide +kernel
theorem dX9_turns_35 : decode cX9_turns 35 = .ok (.aload_n 0, 1) := by decide +kernel
theorem dX9_turns_36 : decode cX9_turns 36 = .ok (.iload_n 1, 1) := by decide +kernel
theorem dX9_turns_37 : decode cX9_turns 37 = .ok (.invokevirtual 197, 3) := by decide +kernel
theorem dX9_turns_40 : decode cX9_turns 40 = .ok (.aload_n 0, 1) := by decide +kernel
theorem dX9_turns_41 : decode cX9_turns 41 = .ok (.invokevirtual 261, 3) := by decide +kernel
theorem dX9_turns_44 : decode cX9_turns 44 = .ok (.iconst 1, 1) := by decide +kernel
theorem dX9_turns_45 : decode cX9_turns 45 = .ok (.istore_n 3, 1) := by decide +kernel
theorem dX9_turns_46 : decode cX9_turns 46 = .ok (.aload_n 0, 1) := by decide +kernel
theorem dX9_turns_47 : decode cX9_turns 47 = .ok (.iload_n 3, 1) := by decide +kernel
theorem dX9_turns_48 : decode cX9_turns 48 = .ok (.invokevirtual 264, 3) := by decide +kernel
theorem dX9_turns_51 : decode cX9_turns 51 = .ok (.ifCond .ne 9, 3) := by decide +kernel
theorem dX9_turns_54 : decode cX9_turns 54 = .ok (.iinc 3 1, 3) := by decide +kernel
theorem dX9_turns_57 : decode cX9_turns 57 = .ok (.goto (-11), 3) := by decide +kernel
theorem dX9_turns_60 : decode cX9_turns 60 = .ok (.iload_n 2, 1) := by decide +kernel
theorem dX9_turns_61 : decode cX9_turns 61 = .ok (.iconst (-1), 1) := by decide +kernel
theorem dX9_turns_62 : decode cX9_turns 62 = .ok (.if_icmp .ne 7, 3) := by decide +kernel
theorem dX9_turns_65 : decode cX9_turns 65 = .ok (.iload_n 3, 1) := by decide +kernel
theorem dX9_turns_66 : decode cX9_turns 66 = .ok (.goto 9, 3) := by decide +kernel
theorem dX9_turns_69 : decode cX9_turns 69 = .ok (.aload_n 0, 1) := by decide +kernel
theorem dX9_turns_70 : decode cX9_turns 70 = .ok (.getfield 63, 3) := by decide +kernel
theorem dX9_turns_73 : decode cX9_turns 73 = .ok (.iload_n 2, 1) := by decide +kernel
theorem dX9_turns_74 : decode cX9_turns 74 = .ok (.iaload, 1) := by decide +kernel
theorem dX9_turns_75 : decode cX9_turns 75 = .ok (.ireturn, 1) := by decide +kernel
set_option maxRecDepth 20000 in
theorem ggX9_takesBest_X9_isWeight : GoodIn wsX9_takesBest wsX9_isWeight := goodIn_r _ [5, 6, 7, 4, 8] (by decide +kernel) (by decide +kernel)
set_option maxRecDepth 20000 in
theorem gX9_takesBest_X9_isWeight : GoodIn wsX9_takesBest (va_wsS RX9 142 yX9_isWeight wsX9_isWeight) := goodIn_app (goodIn_of _ (by decide +kernel)) ggX9_takesBest_X9_isWeight
set_option maxRecDepth 20000 in
theorem ggX9_takesBest_X9_ownCells : GoodIn wsX9_takesBest wsX9_ownCells := goodIn_r _ [12, 13, 14, 15, 4, 16, 17, 18, 19, 20, 21, 22, 23, 24, 25, 26, 27, 28, 29, 30, 31, 32, 1, 33, 34, 35, 36, 37, 38, 39, 40, 41, 42, 43, 44, 45, 46, 47, 48, 49, 50, 51, 52, 53, 54, 55, 56, 57, 58, 59, 60, 61, 62, 63, 64, 65, 66, 67, 68, 69, 70, 71, 72] (by decide +kernel) (by decide +kernel)
set_option maxRecDepth 20000 in
theorem gX9_takesBest_X9_ownCells : GoodIn wsX9_takesBest (wsV RX9 219 RX9 yX9_ownCells wsX9_ownCells) := goodIn_app (goodIn_of _ (by decide +kernel)) ggX9_takesBest_X9_ownCells
theorem dX9_takesBest_0 : decode cX9_takesBest 0 = .ok (.aload_n 0, 1) := by decide +kernel
theorem dX9_takesBest_1 : decode cX9_takesBest 1 = .ok (.getfield 35, 3) := by decide +kernel
theorem dX9_takesBest_4 : decode cX9_takesBest 4 = .ok (.iload_n 1, 1) := by decide +kernel
theorem dX9_takesBest_5 : decode cX9_takesBest 5 = .ok (.iaload, 1) := by decide +kernel
theorem dX9_takesBest_6 : decode cX9_takesBest 6 = .ok (.istore_n 2, 1) := by decide +kernel
theorem dX9_takesBest_7 : decode cX9_takesBest 7 = .ok (.iconst 0, 1) := by decide +kernel
theorem dX9_takesBest_8 : decode cX9_takesBest 8 = .ok (.istore_n 3, 1) := by decide +kernel
theorem dX9_takesBest_9 : decode cX9_takesBest 9 = .ok (.iconst 0, 1) := by decide +kernel
theorem dX9_takesBest_10 : decode cX9_takesBest 10 = .ok (.istore 4, 2) := by decide +kernel
theorem dX9_takesBest_12 : decode cX9_takesBest 12 = .ok (.iload_n 2, 1) := by decide +kernel
theorem dX9_takesBest_13 : decode cX9_takesBest 13 = .ok (.iconst 1, 1) := by decide +kernel
theorem dX9_takesBest_14 : decode cX9_takesBest 14 = .ok (.isub, 1) := by decide +kernel
theorem dX9_takesBest_15 : decode cX9_takesBest 15 = .ok (.istore 5, 2) := by decide +kernel
theorem dX9_takesBest_17 : decode cX9_takesBest 17 = .ok (.iload 5, 2) := by decide +kernel
theorem dX9_takesBest_19 : decode cX9_takesBest 19 = .ok (.iload_n 2, 1) := by decide +kernel
theorem dX9_takesBest_20 : decode cX9_takesBest 20 = .ok (.iconst 1, 1) := by decide +kernel
theorem dX9_takesBest_21 : decode cX9_takesBest 21 = .ok (.iadd, 1) := by decide +kernel
theorem dX9_takesBest_22 : decode cX9_takesBest 22 = .ok (.if_icmp .gt 56, 3) := by decide +kernel
theorem dX9_takesBest_25 : decode cX9_takesBest 25 = .ok (.iload 5, 2) := by decide +kernel
theorem dX9_takesBest_27 : decode cX9_takesBest 27 = .ok (.invokestatic 142, 3) := by decide +kernel
theorem dX9_takesBest_30 : decode cX9_takesBest 30 = .ok (.ifCond .eq 42, 3) := by decide +kernel
theorem dX9_takesBest_33 : decode cX9_takesBest 33 = .ok (.aload_n 0, 1) := by decide +kernel
theorem dX9_takesBest_34 : decode cX9_takesBest 34 = .ok (.getfield 35, 3) := by decide +kernel
theorem dX9_takesBest_37 : decode cX9_takesBest 37 = .ok (.iload_n 1, 1) := by decide +kernel
theorem dX9_takesBest_38 : decode cX9_takesBest 38 = .ok (.iload 5, 2) := by decide +kernel
theorem dX9_takesBest_40 : decode cX9_takesBest 40 = .ok (.iastore, 1) := by decide +kernel
theorem dX9_takesBest_41 : decode cX9_takesBest 41 = .ok (.bipush 10, 2) := by decide +kernel
theorem dX9_takesBest_43 : decode cX9_takesBest 43 = .ok (.aload_n 0, 1) := by decide +kernel
theorem dX9_takesBest_44 : decode cX9_takesBest 44 = .ok (.iload_n 1, 1) := by decide +kernel
theorem dX9_takesBest_45 : decode cX9_takesBest 45 = .ok (.invokevirtual 219, 3) := by decide +kernel
theorem dX9_takesBest_48 : decode cX9_takesBest 48 = .ok (.imul, 1) := by decide +kernel
theorem dX9_takesBest_49 : decode cX9_takesBest 49 = .ok (.iload 5, 2) := by decide +kernel
theorem dX9_takesBest_51 : decode cX9_takesBest 51 = .ok (.isub, 1) := by decide +kernel
theorem dX9_takesBest_52 : decode cX9_takesBest 52 = .ok (.istore 6, 2) := by decide +kernel
theorem dX9_takesBest_54 : decode cX9_takesBest 54 = .ok (.iload_n 3, 1) := by decide +kernel
theorem dX9_takesBest_55 : decode cX9_takesBest 55 = .ok (.ifCond .eq 10, 3) := by decide +kernel
theorem dX9_takesBest_58 : decode cX9_takesBest 58 = .ok (.iload 6, 2) := by decide +kernel
theorem dX9_takesBest_60 : decode cX9_takesBest 60 = .ok (.iload 4, 2) := by decide +kernel
theorem dX9_takesBest_62 : decode cX9_takesBest 62 = .ok (.if_icmp .le 10, 3) := by decide +kernel
theorem dX9_takesBest_65 : decode cX9_takesBest 65 = .ok (.iload 5, 2) := by decide +kernel
theorem dX9_takesBest_67 : decode cX9_takesBest 67 = .ok (.istore_n 3, 1) := by decide +kernel
theorem dX9_takesBest_68 : decode cX9_takesBest 68 = .ok (.iload 6, 2) := by decide +kernel
theorem dX9_takesBest_70 : decode cX9_takesBest 70 = .ok (.istore 4, 2) := by decide +kernel
theorem dX9_takesBest_72 : decode cX9_takesBest 72 = .ok (.iinc 5 1, 3) := by decide +kernel
theorem dX9_takesBest_75 : decode cX9_takesBest 75 = .ok (.goto (-58), 3) := by decide +kernel
theorem dX9_takesBest_78 : decode cX9_takesBest 78 = .ok (.aload_n 0, 1) := by decide +kernel
theorem dX9_takesBest_79 : decode cX9_takesBest 79 = .ok (.getfield 35, 3) := by decide +kernel
theorem dX9_takesBest_82 : decode cX9_takesBest 82 = .ok (.iload_n 1, 1) := by decide +kernel
theorem dX9_takesBest_83 : decode cX9_takesBest 83 = .ok (.iload_n 3, 1) := by decide +kernel
theorem dX9_takesBest_84 : decode cX9_takesBest 84 = .ok (.iastore, 1) := by decide +kernel
theorem dX9_takesBest_85 : decode cX9_takesBest 85 = .ok (.return_, 1) := by decide +kernel
set_option maxRecDepth 20000 in
theorem ggX9_layRounds_X9_layLoud : GoodIn wsX9_layRounds wsX9_layLoud := goodIn_r _ [8, 1, 9, 10, 11, 7, 12, 13, 14, 15, 16, 17, 18, 19, 20, 21, 22, 23, 24, 25, 26, 27, 28, 29, 30, 31, 32, 33, 34, 35, 36, 37, 38, 39, 40, 41, 74, 75, 76, 77, 78, 79, 80, 81, 82, 83, 84, 85, 86, 87, 88, 89, 90, 91, 92, 93, 94, 95, 96, 97, 98, 99, 100, 101, 102, 103, 104, 105] (by decide +kernel) (by decide +kernel)
set_option maxRecDepth 20000 in
theorem gX9_layRounds_X9_layLoud : GoodIn wsX9_layRounds (wsV RX9 197 RX9 yX9_layLoud wsX9_layLoud) := goodIn_app (goodIn_of _ (by decide +kernel)) ggX9_layRounds_X9_layLoud
set_option maxRecDepth 20000 in
theorem ggX9_layRounds_X9_takesBest : GoodIn wsX9_layRounds wsX9_takesBest := goodIn_r _ [45, 3, 46, 47, 7, 48, 49, 50, 51, 52, 53, 54, 55, 17, 18, 19, 20, 21, 22, 56, 57, 58, 59, 60, 61, 62, 63, 64, 1, 65, 66, 67, 68, 13, 15, 69, 70, 71, 72, 32, 73, 74, 75, 76, 77, 78, 79, 80, 81, 82, 83, 84, 85, 86, 87, 88, 89, 90, 91, 92, 93, 94, 95, 96, 97, 98, 99, 100, 101, 102, 103, 104, 105] (by decide +kernel) (by decide +kernel)
set_option maxRecDepth 20000 in
theorem gX9_layRounds_X9_takesBest : GoodIn wsX9_layRounds (wsV RX9 267 RX9 yX9_takesBest wsX9_takesBest) := goodIn_app (goodIn_of _ (by decide +kernel)) ggX9_layRounds_X9_takesBest
theorem dX9_layRounds_0 : decode cX9_layRounds 0 = .ok (.aload_n 0, 1) := by decide +kernel
theorem dX9_layRounds_1 : decode cX9_layRounds 1 = .ok (.iload_n 1, 1) := by decide +kernel
theorem dX9_layRounds_2 : decode cX9_layRounds 2 = .ok (.invokevirtual 197, 3) := by decide +kernel
theorem dX9_layRounds_5 : decode cX9_layRounds 5 = .ok (.iconst 0, 1) := by decide +kernel
theorem dX9_layRounds_6 : decode cX9_layRounds 6 = .ok (.istore_n 3, 1) := by decide +kernel
theorem dX9_layRounds_7 : decode cX9_layRounds 7 = .ok (.iload_n 3, 1) := by decide +kernel
theorem dX9_layRounds_8 : decode cX9_layRounds 8 = .ok (.aload_n 0, 1) := by decide +kernel
theorem dX9_layRounds_9 : decode cX9_layRounds 9 = .ok (.getfield 116, 3) := by decide +kernel
theorem dX9_layRounds_12 : decode cX9_layRounds 12 = .ok (.if_icmp .ge 21, 3) := by decide +kernel
theorem dX9_layRounds_15 : decode cX9_layRounds 15 = .ok (.aload_n 0, 1) := by decide +kernel
theorem dX9_layRounds_16 : decode cX9_layRounds 16 = .ok (.getfield 66, 3) := by decide +kernel
theorem dX9_layRounds_19 : decode cX9_layRounds 19 = .ok (.iload_n 3, 1) := by decide +kernel
theorem dX9_layRounds_20 : decode cX9_layRounds 20 = .ok (.aload_n 0, 1) := by decide +kernel
theorem dX9_layRounds_21 : decode cX9_layRounds 21 = .ok (.getfield 35, 3) := by decide +kernel
theorem dX9_layRounds_24 : decode cX9_layRounds 24 = .ok (.iload_n 3, 1) := by decide +kernel
theorem dX9_layRounds_25 : decode cX9_layRounds 25 = .ok (.iaload, 1) := by decide +kernel
theorem dX9_layRounds_26 : decode cX9_layRounds 26 = .ok (.iastore, 1) := by decide +kernel
theorem dX9_layRounds_27 : decode cX9_layRounds 27 = .ok (.iinc 3 1, 3) := by decide +kernel
theorem dX9_layRounds_30 : decode cX9_layRounds 30 = .ok (.goto (-23), 3) := by decide +kernel
theorem dX9_layRounds_33 : decode cX9_layRounds 33 = .ok (.iconst 1, 1) := by decide +kernel
theorem dX9_layRounds_34 : decode cX9_layRounds 34 = .ok (.istore_n 3, 1) := by decide +kernel
theorem dX9_layRounds_35 : decode cX9_layRounds 35 = .ok (.iload_n 3, 1) := by decide +kernel
theorem dX9_layRounds_36 : decode cX9_layRounds 36 = .ok (.iload_n 2, 1) := by decide +kernel
theorem dX9_layRounds_37 : decode cX9_layRounds 37 = .ok (.if_icmp .gt 70, 3) := by decide +kernel
theorem dX9_layRounds_40 : decode cX9_layRounds 40 = .ok (.iconst 0, 1) := by decide +kernel
theorem dX9_layRounds_41 : decode cX9_layRounds 41 = .ok (.istore 4, 2) := by decide +kernel
theorem dX9_layRounds_43 : decode cX9_layRounds 43 = .ok (.iload 4, 2) := by decide +kernel
theorem dX9_layRounds_45 : decode cX9_layRounds 45 = .ok (.aload_n 0, 1) := by decide +kernel
theorem dX9_layRounds_46 : decode cX9_layRounds 46 = .ok (.getfield 116, 3) := by decide +kernel
theorem dX9_layRounds_49 : decode cX9_layRounds 49 = .ok (.if_icmp .ge 15, 3) := by decide +kernel
theorem dX9_layRounds_52 : decode cX9_layRounds 52 = .ok (.aload_n 0, 1) := by decide +kernel
theorem dX9_layRounds_53 : decode cX9_layRounds 53 = .ok (.iload 4, 2) := by decide +kernel
theorem dX9_layRounds_55 : decode cX9_layRounds 55 = .ok (.invokevirtual 267, 3) := by decide +kernel
theorem dX9_layRounds_58 : decode cX9_layRounds 58 = .ok (.iinc 4 1, 3) := by decide +kernel
theorem dX9_layRounds_61 : decode cX9_layRounds 61 = .ok (.goto (-18), 3) := by decide +kernel
theorem dX9_layRounds_64 : decode cX9_layRounds 64 = .ok (.iconst 0, 1) := by decide +kernel
theorem dX9_layRounds_65 : decode cX9_layRounds 65 = .ok (.istore 4, 2) := by decide +kernel
theorem dX9_layRounds_67 : decode cX9_layRounds 67 = .ok (.iload 4, 2) := by decide +kernel
theorem dX9_layRounds_69 : decode cX9_layRounds 69 = .ok (.aload_n 0, 1) := by decide +kernel
theorem dX9_layRounds_70 : decode cX9_layRounds 70 = .ok (.getfield 116, 3) := by decide +kernel
theorem dX9_layRounds_73 : decode cX9_layRounds 73 = .ok (.if_icmp .ge 28, 3) := by decide +kernel
theorem dX9_layRounds_76 : decode cX9_layRounds 76 = .ok (.aload_n 0, 1) := by decide +kernel
theorem dX9_layRounds_77 : decode cX9_layRounds 77 = .ok (.getfield 66, 3) := by decide +kernel
theorem dX9_layRounds_80 : decode cX9_layRounds 80 = .ok (.bipush 6, 2) := by decide +kernel
theorem dX9_layRounds_82 : decode cX9_layRounds 82 = .ok (.iload_n 3, 1) := by decide +kernel
theorem dX9_layRounds_83 : decode cX9_layRounds 83 = .ok (.imul, 1) := by decide +kernel
theorem dX9_layRounds_84 : decode cX9_layRounds 84 = .ok (.iload 4, 2) := by decide +kernel
theorem dX9_layRounds_86 : decode cX9_layRounds 86 = .ok (.iadd, 1) := by decide +kernel
theorem dX9_layRounds_87 : decode cX9_layRounds 87 = .ok (.aload_n 0, 1) := by decide +kernel
theorem dX9_layRounds_88 : decode cX9_layRounds 88 = .ok (.getfield 35, 3) := by decide +kernel
theorem dX9_layRounds_91 : decode cX9_layRounds 91 = .ok (.iload 4, 2) := by decide +kernel
theorem dX9_layRounds_93 : decode cX9_layRounds 93 = .ok (.iaload, 1) := by decide +kernel
theorem dX9_layRounds_94 : decode cX9_layRounds 94 = .ok (.iastore, 1) := by decide +kernel
theorem dX9_layRounds_95 : decode cX9_layRounds 95 = .ok (.iinc 4 1, 3) := by decide +kernel
theorem dX9_layRounds_98 : decode cX9_layRounds 98 = .ok (.goto (-31), 3) := by decide +kernel
theorem dX9_layRounds_101 : decode cX9_layRounds 101 = .ok (.iinc 3 1, 3) := by decide +kernel
theorem dX9_layRounds_104 : decode cX9_layRounds 104 = .ok (.goto (-69), 3) := by decide +kernel
theorem dX9_layRounds_107 : decode cX9_layRounds 107 = .ok (.iconst 0, 1) := by decide +kernel
theorem dX9_layRounds_108 : decode cX9_layRounds 108 = .ok (.istore_n 3, 1) := by decide +kernel
theorem dX9_layRounds_109 : decode cX9_layRounds 109 = .ok (.iload_n 3, 1) := by decide +kernel
theorem dX9_layRounds_110 : decode cX9_layRounds 110 = .ok (.aload_n 0, 1) := by decide +kernel
theorem dX9_layRounds_111 : decode cX9_layRounds 111 = .ok (.getfield 116, 3) := by decide +kernel
theorem dX9_layRounds_114 : decode cX9_layRounds 114 = .ok (.if_icmp .ge 21, 3) := by decide +kernel
theorem dX9_layRounds_117 : decode cX9_layRounds 117 = .ok (.aload_n 0, 1) := by decide +kernel
theorem dX9_layRounds_118 : decode cX9_layRounds 118 = .ok (.getfield 35, 3) := by decide +kernel
theorem dX9_layRounds_121 : decode cX9_layRounds 121 = .ok (.iload_n 3, 1) := by decide +kernel
theorem dX9_layRounds_122 : decode cX9_layRounds 122 = .ok (.aload_n 0, 1) := by decide +kernel
theorem dX9_layRounds_123 : decode cX9_layRounds 123 = .ok (.getfield 66, 3) := by decide +kernel
theorem dX9_layRounds_126 : decode cX9_layRounds 126 = .ok (.iload_n 3, 1) := by decide +kernel
theorem dX9_layRounds_127 : decode cX9_layRounds 127 = .ok (.iaload, 1) := by decide +kernel
theorem dX9_layRounds_128 : decode cX9_layRounds 128 = .ok (.iastore, 1) := by decide +kernel
theorem dX9_layRounds_129 : decode cX9_layRounds 129 = .ok (.iinc 3 1, 3) := by decide +kernel
theorem dX9_layRounds_132 : decode cX9_layRounds 132 = .ok (.goto (-23), 3) := by decide +kernel
theorem dX9_layRounds_135 : decode cX9_layRounds 135 = .ok (.return_, 1) := by decide +kernel
theorem dX9_areAlike_0 : decode cX9_areAlike 0 = .ok (.iconst 0, 1) := by decide +kernel
theorem dX9_areAlike_1 : decode cX9_areAlike 1 = .ok (.istore_n 3, 1) := by decide +kernel
theorem dX9_areAlike_2 : decode cX9_areAlike 2 = .ok (.iload_n 3, 1) := by decide +kernel
theorem dX9_areAlike_3 : decode cX9_areAlike 3 = .ok (.aload_n 0, 1) := by decide +kernel
theorem dX9_areAlike_4 : decode cX9_areAlike 4 = .ok (.getfield 116, 3) := by decide +kernel
theorem dX9_areAlike_7 : decode cX9_areAlike 7 = .ok (.if_icmp .ge 36, 3) := by decide +kernel
theorem dX9_areAlike_10 : decode cX9_areAlike 10 = .ok (.aload_n 0, 1) := by decide +kernel
theorem dX9_areAlike_11 : decode cX9_areAlike 11 = .ok (.getfield 66, 3) := by decide +kernel
theorem dX9_areAlike_14 : decode cX9_areAlike 14 = .ok (.bipush 6, 2) := by decide +kernel
theorem dX9_areAlike_16 : decode cX9_areAlike 16 = .ok (.iload_n 1, 1) := by decide +kernel
theorem dX9_areAlike_17 : decode cX9_areAlike 17 = .ok (.imul, 1) := by decide +kernel
theorem dX9_areAlike_18 : decode cX9_areAlike 18 = .ok (.iload_n 3, 1) := by decide +kernel
theorem dX9_areAlike_19 : decode cX9_areAlike 19 = .ok (.iadd, 1) := by decide +kernel
theorem dX9_areAlike_20 : decode cX9_areAlike 20 = .ok (.iaload, 1) := by decide +kernel
theorem dX9_areAlike_21 : decode cX9_areAlike 21 = .ok (.aload_n 0, 1) := by decide +kernel
theorem dX9_areAlike_22 : decode cX9_areAlike 22 = .ok (.getfield 66, 3) := by decide +kernel
theorem dX9_areAlike_25 : decode cX9_areAlike 25 = .ok (.bipush 6, 2) := by decide +kernel
theorem dX9_areAlike_27 : decode cX9_areAlike 27 = .ok (.iload_n 2, 1) := by decide +kernel
theorem dX9_areAlike_28 : decode cX9_areAlike 28 = .ok (.imul, 1) := by decide +kernel
theorem dX9_areAlike_29 : decode cX9_areAlike 29 = .ok (.iload_n 3, 1) := by decide +kernel
theorem dX9_areAlike_30 : decode cX9_areAlike 30 = .ok (.iadd, 1) := by decide +kernel
theorem dX9_areAlike_31 : decode cX9_areAlike 31 = .ok (.iaload, 1) := by decide +kernel
theorem dX9_areAlike_32 : decode cX9_areAlike 32 = .ok (.if_icmp .eq 5, 3) := by decide +kernel
theorem dX9_areAlike_35 : decode cX9_areAlike 35 = .ok (.iconst 0, 1) := by decide +kernel
theorem dX9_areAlike_36 : decode cX9_areAlike 36 = .ok (.ireturn, 1) := by decide +kernel
theorem dX9_areAlike_37 : decode cX9_areAlike 37 = .ok (.iinc 3 1, 3) := by decide +kernel
theorem dX9_areAlike_40 : decode cX9_areAlike 40 = .ok (.goto (-38), 3) := by decide +kernel
theorem dX9_areAlike_43 : decode cX9_areAlike 43 = .ok (.iconst 1, 1) := by decide +kernel
theorem dX9_areAlike_44 : decode cX9_areAlike 44 = .ok (.ireturn, 1) := by decide +kernel
set_option maxRecDepth 20000 in
theorem ggX9_settles_X9_isWind : GoodIn wsX9_settles wsX9_isWind := goodIn_r _ [5, 6, 7, 4, 8] (by decide +kernel) (by decide +kernel)
set_option maxRecDepth 20000 in
theorem gX9_settles_X9_isWind : GoodIn wsX9_settles (va_wsS RX9 169 yX9_isWind wsX9_isWind) := goodIn_app (goodIn_of _ (by decide +kernel)) ggX9_settles_X9_isWind
set_option maxRecDepth 20000 in
theorem ggX9_settles_X9_within : GoodIn wsX9_settles wsX9_within := goodIn_r _ [8] (by decide +kernel) (by decide +kernel)
set_option maxRecDepth 20000 in
theorem gX9_settles_X9_within : GoodIn wsX9_settles (va_wsS RX9 75 yX9_within wsX9_within) := goodIn_app (goodIn_of _ (by decide +kernel)) ggX9_settles_X9_within
set_option maxRecDepth 20000 in
theorem ggX9_settles_X9_layRounds : GoodIn wsX9_settles wsX9_layRounds := goodIn_r _ [12, 1, 13, 14, 15, 16, 17, 4, 18, 19, 20, 21, 22, 23, 24, 25, 26, 27, 28, 29, 30, 31, 32, 33, 34, 35, 36, 37, 38, 39, 40, 41, 42, 43, 44, 45, 46, 47, 48, 49, 50, 51, 52, 53, 54, 55, 56, 57, 58, 6, 7, 8, 59, 60, 61, 62, 63, 64, 65, 66, 67, 68, 69, 70, 71, 72, 73, 74, 75, 76, 77, 78, 79, 80, 85, 86, 87, 88, 89, 90, 91, 92, 93, 94, 95, 96, 97, 98, 99, 100, 101, 102, 103, 104, 105, 106, 107, 108, 109, 110, 111, 112, 113, 114, 115, 116] (by decide +kernel) (by decide +kernel)
set_option maxRecDepth 20000 in
theorem gX9_settles_X9_layRounds : GoodIn wsX9_settles (wsV RX9 270 RX9 yX9_layRounds wsX9_layRounds) := goodIn_app (goodIn_of _ (by decide +kernel)) ggX9_settles_X9_layRounds
set_option maxRecDepth 20000 in
theorem ggX9_settles_X9_areAlike : GoodIn wsX9_settles wsX9_areAlike := goodIn_r _ [84, 1, 13, 85, 86, 87, 88, 89, 90, 91, 92, 93, 94, 95, 96, 97, 98, 99, 100, 101, 102, 103, 104, 105, 106, 107, 108, 109, 110, 111, 112, 113, 114, 115, 116] (by decide +kernel) (by decide +kernel)
set_option maxRecDepth 20000 in
theorem gX9_settles_X9_areAlike : GoodIn wsX9_settles (wsV RX9 273 RX9 yX9_areAlike wsX9_areAlike) := goodIn_app (goodIn_of _ (by decide +kernel)) ggX9_settles_X9_areAlike
theorem dX9_settles_0 : decode cX9_settles 0 = .ok (.iload_n 1, 1) := by decide +kernel
theorem dX9_settles_1 : decode cX9_settles 1 = .ok (.invokestatic 169, 3) := by decide +kernel
theorem dX9_settles_4 : decode cX9_settles 4 = .ok (.ifCond .eq 12, 3) := by decide +kernel
theorem dX9_settles_7 : decode cX9_settles 7 = .ok (.iload_n 2, 1) := by decide +kernel
theorem dX9_settles_8 : decode cX9_settles 8 = .ok (.iconst 0, 1) := by decide +kernel
theorem dX9_settles_9 : decode cX9_settles 9 = .ok (.iconst 1, 1) := by decide +kernel
theorem dX9_settles_10 : decode cX9_settles 10 = .ok (.invokestatic 75, 3) := by decide +kernel
theorem dX9_settles_13 : decode cX9_settles 13 = .ok (.ifCond .ne 6, 3) := by decide +kernel
theorem dX9_settles_16 : decode cX9_settles 16 = .ok (.bipush (-2), 2) := by decide +kernel
theorem dX9_settles_18 : decode cX9_settles 18 = .ok (.ireturn, 1) := by decide +kernel
theorem dX9_settles_19 : decode cX9_settles 19 = .ok (.aload_n 0, 1) := by decide +kernel
theorem dX9_settles_20 : decode cX9_settles 20 = .ok (.getfield 116, 3) := by decide +kernel
theorem dX9_settles_23 : decode cX9_settles 23 = .ok (.ifCond .ne 6, 3) := by decide +kernel
theorem dX9_settles_26 : decode cX9_settles 26 = .ok (.bipush (-3), 2) := by decide +kernel
theorem dX9_settles_28 : decode cX9_settles 28 = .ok (.ireturn, 1) := by decide +kernel
theorem dX9_settles_29 : decode cX9_settles 29 = .ok (.aload_n 0, 1) := by decide +kernel
theorem dX9_settles_30 : decode cX9_settles 30 = .ok (.iload_n 1, 1) := by decide +kernel
theorem dX9_settles_31 : decode cX9_settles 31 = .ok (.sipush 200, 3) := by decide +kernel
theorem dX9_settles_34 : decode cX9_settles 34 = .ok (.invokevirtual 270, 3) := by decide +kernel
theorem dX9_settles_37 : decode cX9_settles 37 = .ok (.iconst 1, 1) := by decide +kernel
theorem dX9_settles_38 : decode cX9_settles 38 = .ok (.istore_n 3, 1) := by decide +kernel
theorem dX9_settles_39 : decode cX9_settles 39 = .ok (.iload_n 3, 1) := by decide +kernel
theorem dX9_settles_40 : decode cX9_settles 40 = .ok (.sipush 200, 3) := by decide +kernel
theorem dX9_settles_43 : decode cX9_settles 43 = .ok (.if_icmp .gt 48, 3) := by decide +kernel
theorem dX9_settles_46 : decode cX9_settles 46 = .ok (.iload_n 3, 1) := by decide +kernel
theorem dX9_settles_47 : decode cX9_settles 47 = .ok (.iconst 1, 1) := by decide +kernel
theorem dX9_settles_48 : decode cX9_settles 48 = .ok (.isub, 1) := by decide +kernel
theorem dX9_settles_49 : decode cX9_settles 49 = .ok (.istore 4, 2) := by decide +kernel
theorem dX9_settles_51 : decode cX9_settles 51 = .ok (.iload 4, 2) := by decide +kernel
theorem dX9_settles_53 : decode cX9_settles 53 = .ok (.ifCond .lt 32, 3) := by decide +kernel
theorem dX9_settles_56 : decode cX9_settles 56 = .ok (.aload_n 0, 1) := by decide +kernel
theorem dX9_settles_57 : decode cX9_settles 57 = .ok (.iload_n 3, 1) := by decide +kernel
theorem dX9_settles_58 : decode cX9_settles 58 = .ok (.iload 4, 2) := by decide +kernel
theorem dX9_settles_60 : decode cX9_settles 60 = .ok (.invokevirtual 273, 3) := by decide +kernel
theorem dX9_settles_63 : decode cX9_settles 63 = .ok (.ifCond .eq 16, 3) := by decide +kernel
theorem dX9_settles_66 : decode cX9_settles 66 = .ok (.iload_n 2, 1) := by decide +kernel
theorem dX9_settles_67 : decode cX9_settles 67 = .ok (.ifCond .ne 7, 3) := by decide +kernel
theorem dX9_settles_70 : decode cX9_settles 70 = .ok (.iload_n 3, 1) := by decide +kernel
theorem dX9_settles_71 : decode cX9_settles 71 = .ok (.goto 7, 3) := by decide +kernel
theorem dX9_settles_74 : decode cX9_settles 74 = .ok (.iload_n 3, 1) := by decide +kernel
theorem dX9_settles_75 : decode cX9_settles 75 = .ok (.iload 4, 2) := by decide +kernel
theorem dX9_settles_77 : decode cX9_settles 77 = .ok (.isub, 1) := by decide +kernel
theorem dX9_settles_78 : decode cX9_settles 78 = .ok (.ireturn, 1) := by decide +kernel
theorem dX9_settles_79 : decode cX9_settles 79 = .ok (.iinc 4 (-1), 3) := by decide +kernel
theorem dX9_settles_82 : decode cX9_settles 82 = .ok (.goto (-31), 3) := by decide +kernel
theorem dX9_settles_85 : decode cX9_settles 85 = .ok (.iinc 3 1, 3) := by decide +kernel
theorem dX9_settles_88 : decode cX9_settles 88 = .ok (.goto (-49), 3) := by decide +kernel
theorem dX9_settles_91 : decode cX9_settles 91 = .ok (.bipush (-9), 2) := by decide +kernel
theorem dX9_settles_93 : decode cX9_settles 93 = .ok (.ireturn, 1) := by decide +kernel
set_option maxRecDepth 20000 in
theorem ggX9_after_X9_isBell : GoodIn wsX9_after wsX9_isBell := goodIn_r _ [6, 7, 85, 86, 87, 88, 89, 90, 91, 92, 93, 94, 95, 96, 97, 98, 99, 100, 101, 102, 103, 104, 105, 106, 107, 108, 109, 110, 111, 112, 113, 114, 115, 116] (by decide +kernel) (by decide +kernel)
set_option maxRecDepth 20000 in
theorem gX9_after_X9_isBell : GoodIn wsX9_after (wsV RX9 145 RX9 yX9_isBell wsX9_isBell) := goodIn_app (goodIn_of _ (by decide +kernel)) ggX9_after_X9_isBell
set_option maxRecDepth 20000 in
theorem ggX9_after_X9_isWind : GoodIn wsX9_after wsX9_isWind := goodIn_r _ [10, 11, 12, 5, 13] (by decide +kernel) (by decide +kernel)
set_option maxRecDepth 20000 in
theorem gX9_after_X9_isWind : GoodIn wsX9_after (va_wsS RX9 169 yX9_isWind wsX9_isWind) := goodIn_app (goodIn_of _ (by decide +kernel)) ggX9_after_X9_isWind
set_option maxRecDepth 20000 in
theorem ggX9_after_X9_within : GoodIn wsX9_after wsX9_within := goodIn_r _ [13] (by decide +kernel) (by decide +kernel)
set_option maxRecDepth 20000 in
theorem gX9_after_X9_within : GoodIn wsX9_after (va_wsS RX9 75 yX9_within wsX9_within) := goodIn_app (goodIn_of _ (by decide +kernel)) ggX9_after_X9_within
set_option maxRecDepth 20000 in
theorem ggX9_after_X9_layRounds : GoodIn wsX9_after wsX9_layRounds := goodIn_r _ [17, 7, 1, 18, 19, 20, 21, 5, 22, 23, 24, 25, 26, 27, 28, 29, 30, 31, 32, 33, 34, 35, 36, 37, 38, 39, 40, 41, 42, 43, 44, 45, 46, 47, 48, 49, 50, 51, 52, 53, 54, 55, 56, 57, 58, 59, 60, 61, 62, 11, 12, 13, 63, 64, 65, 66, 67, 68, 69, 70, 71, 72, 73, 74, 75, 76, 77, 78, 79, 80, 81, 82, 83, 84, 85, 86, 87, 88, 89, 90, 91, 92, 93, 94, 95, 96, 97, 98, 99, 100, 101, 102, 103, 104, 105, 106, 107, 108, 109, 110, 111, 112, 113, 114, 115, 116] (by decide +kernel) (by decide +kernel)
set_option maxRecDepth 20000 in
theorem gX9_after_X9_layRounds : GoodIn wsX9_after (wsV RX9 270 RX9 yX9_layRounds wsX9_layRounds) := goodIn_app (goodIn_of _ (by decide +kernel)) ggX9_after_X9_layRounds
theorem dX9_after_0 : decode cX9_after 0 = .ok (.aload_n 0, 1) := by decide +kernel
theorem dX9_after_1 : decode cX9_after 1 = .ok (.iload_n 1, 1) := by decide +kernel
theorem dX9_after_2 : decode cX9_after 2 = .ok (.invokevirtual 145, 3) := by decide +kernel
theorem dX9_after_5 : decode cX9_after 5 = .ok (.ifCond .ne 5, 3) := by decide +kernel
theorem dX9_after_8 : decode cX9_after 8 = .ok (.iconst (-1), 1) := by decide +kernel
theorem dX9_after_9 : decode cX9_after 9 = .ok (.ireturn, 1) := by decide +kernel
theorem dX9_after_10 : decode cX9_after 10 = .ok (.iload_n 2, 1) := by decide +kernel
theorem dX9_after_11 : decode cX9_after 11 = .ok (.invokestatic 169, 3) := by decide +kernel
theorem dX9_after_14 : decode cX9_after 14 = .ok (.ifCond .eq 14, 3) := by decide +kernel
theorem dX9_after_17 : decode cX9_after 17 = .ok (.iload_n 3, 1) := by decide +kernel
theorem dX9_after_18 : decode cX9_after 18 = .ok (.iconst 0, 1) := by decide +kernel
theorem dX9_after_19 : decode cX9_after 19 = .ok (.sipush 200, 3) := by decide +kernel
theorem dX9_after_22 : decode cX9_after 22 = .ok (.invokestatic 75, 3) := by decide +kernel
theorem dX9_after_25 : decode cX9_after 25 = .ok (.ifCond .ne 6, 3) := by decide +kernel
theorem dX9_after_28 : decode cX9_after 28 = .ok (.bipush (-2), 2) := by decide +kernel
theorem dX9_after_30 : decode cX9_after 30 = .ok (.ireturn, 1) := by decide +kernel
theorem dX9_after_31 : decode cX9_after 31 = .ok (.aload_n 0, 1) := by decide +kernel
theorem dX9_after_32 : decode cX9_after 32 = .ok (.iload_n 2, 1) := by decide +kernel
theorem dX9_after_33 : decode cX9_after 33 = .ok (.iload_n 3, 1) := by decide +kernel
theorem dX9_after_34 : decode cX9_after 34 = .ok (.invokevirtual 270, 3) := by decide +kernel
theorem dX9_after_37 : decode cX9_after 37 = .ok (.aload_n 0, 1) := by decide +kernel
theorem dX9_after_38 : decode cX9_after 38 = .ok (.getfield 66, 3) := by decide +kernel
theorem dX9_after_41 : decode cX9_after 41 = .ok (.bipush 6, 2) := by decide +kernel
theorem dX9_after_43 : decode cX9_after 43 = .ok (.iload_n 3, 1) := by decide +kernel
theorem dX9_after_44 : decode cX9_after 44 = .ok (.imul, 1) := by decide +kernel
theorem dX9_after_45 : decode cX9_after 45 = .ok (.iload_n 1, 1) := by decide +kernel
theorem dX9_after_46 : decode cX9_after 46 = .ok (.iadd, 1) := by decide +kernel
theorem dX9_after_47 : decode cX9_after 47 = .ok (.iaload, 1) := by decide +kernel
theorem dX9_after_48 : decode cX9_after 48 = .ok (.ireturn, 1) := by decide +kernel
set_option maxRecDepth 20000 in
theorem ggX9_sheet_X9_isSheet : GoodIn wsX9_sheet wsX9_isSheet := goodIn_r _ [8, 9, 10, 7, 11] (by decide +kernel) (by decide +kernel)
set_option maxRecDepth 20000 in
theorem gX9_sheet_X9_isSheet : GoodIn wsX9_sheet (va_wsS RX9 92 yX9_isSheet wsX9_isSheet) := goodIn_app (goodIn_of _ (by decide +kernel)) ggX9_sheet_X9_isSheet
set_option maxRecDepth 20000 in
theorem ggX9_sheet_X9_isSort : GoodIn wsX9_sheet wsX9_isSort := goodIn_r _ [14, 9, 10, 7, 11] (by decide +kernel) (by decide +kernel)
set_option maxRecDepth 20000 in
theorem gX9_sheet_X9_isSort : GoodIn wsX9_sheet (va_wsS RX9 96 yX9_isSort wsX9_isSort) := goodIn_app (goodIn_of _ (by decide +kernel)) ggX9_sheet_X9_isSort
set_option maxRecDepth 20000 in
theorem ggX9_sheet_X9_fails : GoodIn wsX9_sheet wsX9_fails := goodIn_r _ [18, 1, 19, 20, 21, 22, 23, 24, 25, 26, 27, 28, 29, 30, 31, 32, 33, 34, 35, 36, 37, 38, 39, 40, 41, 42, 43, 44, 45, 46, 47, 48, 49, 50] (by decide +kernel) (by decide +kernel)
set_option maxRecDepth 20000 in
theorem gX9_sheet_X9_fails : GoodIn wsX9_sheet (wsV RX9 103 RX9 yX9_fails wsX9_fails) := goodIn_app (goodIn_of _ (by decide +kernel)) ggX9_sheet_X9_fails
theorem dX9_sheet_0 : decode cX9_sheet 0 = .ok (.aload_n 0, 1) := by decide +kernel
theorem dX9_sheet_1 : decode cX9_sheet 1 = .ok (.iconst 0, 1) := by decide +kernel
theorem dX9_sheet_2 : decode cX9_sheet 2 = .ok (.putfield 69, 3) := by decide +kernel
theorem dX9_sheet_5 : decode cX9_sheet 5 = .ok (.iload_n 1, 1) := by decide +kernel
theorem dX9_sheet_6 : decode cX9_sheet 6 = .ok (.invokestatic 92, 3) := by decide +kernel
theorem dX9_sheet_9 : decode cX9_sheet 9 = .ok (.ifCond .ne 5, 3) := by decide +kernel
theorem dX9_sheet_12 : decode cX9_sheet 12 = .ok (.iconst (-1), 1) := by decide +kernel
theorem dX9_sheet_13 : decode cX9_sheet 13 = .ok (.ireturn, 1) := by decide +kernel
theorem dX9_sheet_14 : decode cX9_sheet 14 = .ok (.iload_n 2, 1) := by decide +kernel
theorem dX9_sheet_15 : decode cX9_sheet 15 = .ok (.invokestatic 96, 3) := by decide +kernel
theorem dX9_sheet_18 : decode cX9_sheet 18 = .ok (.ifCond .eq 9, 3) := by decide +kernel
theorem dX9_sheet_21 : decode cX9_sheet 21 = .ok (.iload_n 3, 1) := by decide +kernel
theorem dX9_sheet_22 : decode cX9_sheet 22 = .ok (.bipush 60, 2) := by decide +kernel
theorem dX9_sheet_24 : decode cX9_sheet 24 = .ok (.if_icmp .le 6, 3) := by decide +kernel
theorem dX9_sheet_27 : decode cX9_sheet 27 = .ok (.bipush (-2), 2) := by decide +kernel
theorem dX9_sheet_29 : decode cX9_sheet 29 = .ok (.ireturn, 1) := by decide +kernel
theorem dX9_sheet_30 : decode cX9_sheet 30 = .ok (.iload_n 3, 1) := by decide +kernel
theorem dX9_sheet_31 : decode cX9_sheet 31 = .ok (.ifCond .ge 9, 3) := by decide +kernel
theorem dX9_sheet_34 : decode cX9_sheet 34 = .ok (.aload_n 0, 1) := by decide +kernel
theorem dX9_sheet_35 : decode cX9_sheet 35 = .ok (.iconst 4, 1) := by decide +kernel
theorem dX9_sheet_36 : decode cX9_sheet 36 = .ok (.invokevirtual 103, 3) := by decide +kernel
theorem dX9_sheet_39 : decode cX9_sheet 39 = .ok (.ireturn, 1) := by decide +kernel
theorem dX9_sheet_40 : decode cX9_sheet 40 = .ok (.aload_n 0, 1) := by decide +kernel
theorem dX9_sheet_41 : decode cX9_sheet 41 = .ok (.getfield 9, 3) := by decide +kernel
theorem dX9_sheet_44 : decode cX9_sheet 44 = .ok (.iload_n 1, 1) := by decide +kernel
theorem dX9_sheet_45 : decode cX9_sheet 45 = .ok (.iload_n 2, 1) := by decide +kernel
theorem dX9_sheet_46 : decode cX9_sheet 46 = .ok (.iastore, 1) := by decide +kernel
theorem dX9_sheet_47 : decode cX9_sheet 47 = .ok (.aload_n 0, 1) := by decide +kernel
theorem dX9_sheet_48 : decode cX9_sheet 48 = .ok (.getfield 13, 3) := by decide +kernel
theorem dX9_sheet_51 : decode cX9_sheet 51 = .ok (.iload_n 1, 1) := by decide +kernel
theorem dX9_sheet_52 : decode cX9_sheet 52 = .ok (.iload_n 3, 1) := by decide +kernel
theorem dX9_sheet_53 : decode cX9_sheet 53 = .ok (.iastore, 1) := by decide +kernel
theorem dX9_sheet_54 : decode cX9_sheet 54 = .ok (.iconst 0, 1) := by decide +kernel
theorem dX9_sheet_55 : decode cX9_sheet 55 = .ok (.istore 4, 2) := by decide +kernel
theorem dX9_sheet_57 : decode cX9_sheet 57 = .ok (.iload 4, 2) := by decide +kernel
theorem dX9_sheet_59 : decode cX9_sheet 59 = .ok (.bipush 60, 2) := by decide +kernel
theorem dX9_sheet_61 : decode cX9_sheet 61 = .ok (.if_icmp .ge 22, 3) := by decide +kernel
theorem dX9_sheet_64 : decode cX9_sheet 64 = .ok (.aload_n 0, 1) := by decide +kernel
theorem dX9_sheet_65 : decode cX9_sheet 65 = .ok (.getfield 16, 3) := by decide +kernel
theorem dX9_sheet_68 : decode cX9_sheet 68 = .ok (.bipush 60, 2) := by decide +kernel
theorem dX9_sheet_70 : decode cX9_sheet 70 = .ok (.iload_n 1, 1) := by decide +kernel
theorem dX9_sheet_71 : decode cX9_sheet 71 = .ok (.imul, 1) := by decide +kernel
theorem dX9_sheet_72 : decode cX9_sheet 72 = .ok (.iload 4, 2) := by decide +kernel
theorem dX9_sheet_74 : decode cX9_sheet 74 = .ok (.iadd, 1) := by decide +kernel
theorem dX9_sheet_75 : decode cX9_sheet 75 = .ok (.iconst 0, 1) := by decide +kernel
theorem dX9_sheet_76 : decode cX9_sheet 76 = .ok (.iastore, 1) := by decide +kernel
theorem dX9_sheet_77 : decode cX9_sheet 77 = .ok (.iinc 4 1, 3) := by decide +kernel
theorem dX9_sheet_80 : decode cX9_sheet 80 = .ok (.goto (-23), 3) := by decide +kernel
theorem dX9_sheet_83 : decode cX9_sheet 83 = .ok (.iconst 1, 1) := by decide +kernel
theorem dX9_sheet_84 : decode cX9_sheet 84 = .ok (.ireturn, 1) := by decide +kernel
set_option maxRecDepth 20000 in
theorem ggX9_lose_X9_isSheet : GoodIn wsX9_lose wsX9_isSheet := goodIn_r _ [5, 6, 7, 4, 8] (by decide +kernel) (by decide +kernel)
set_option maxRecDepth 20000 in
theorem gX9_lose_X9_isSheet : GoodIn wsX9_lose (va_wsS RX9 92 yX9_isSheet wsX9_isSheet) := goodIn_app (goodIn_of _ (by decide +kernel)) ggX9_lose_X9_isSheet
theorem dX9_lose_0 : decode cX9_lose 0 = .ok (.iload_n 1, 1) := by decide +kernel
theorem dX9_lose_1 : decode cX9_lose 1 = .ok (.invokestatic 92, 3) := by decide +kernel
theorem dX9_lose_4 : decode cX9_lose 4 = .ok (.ifCond .ne 5, 3) := by decide +kernel
theorem dX9_lose_7 : decode cX9_lose 7 = .ok (.iconst (-1), 1) := by decide +kernel
theorem dX9_lose_8 : decode cX9_lose 8 = .ok (.ireturn, 1) := by decide +kernel
theorem dX9_lose_9 : decode cX9_lose 9 = .ok (.aload_n 0, 1) := by decide +kernel
theorem dX9_lose_10 : decode cX9_lose 10 = .ok (.getfield 9, 3) := by decide +kernel
theorem dX9_lose_13 : decode cX9_lose 13 = .ok (.iload_n 1, 1) := by decide +kernel
theorem dX9_lose_14 : decode cX9_lose 14 = .ok (.iaload, 1) := by decide +kernel
theorem dX9_lose_15 : decode cX9_lose 15 = .ok (.bipush (-9), 2) := by decide +kernel
theorem dX9_lose_17 : decode cX9_lose 17 = .ok (.if_icmp .ne 7, 3) := by decide +kernel
theorem dX9_lose_20 : decode cX9_lose 20 = .ok (.iconst 0, 1) := by decide +kernel
theorem dX9_lose_21 : decode cX9_lose 21 = .ok (.goto 4, 3) := by decide +kernel
theorem dX9_lose_24 : decode cX9_lose 24 = .ok (.iconst 1, 1) := by decide +kernel
theorem dX9_lose_25 : decode cX9_lose 25 = .ok (.istore_n 2, 1) := by decide +kernel
theorem dX9_lose_26 : decode cX9_lose 26 = .ok (.aload_n 0, 1) := by decide +kernel
theorem dX9_lose_27 : decode cX9_lose 27 = .ok (.getfield 9, 3) := by decide +kernel
theorem dX9_lose_30 : decode cX9_lose 30 = .ok (.iload_n 1, 1) := by decide +kernel
theorem dX9_lose_31 : decode cX9_lose 31 = .ok (.bipush (-9), 2) := by decide +kernel
theorem dX9_lose_33 : decode cX9_lose 33 = .ok (.iastore, 1) := by decide +kernel
theorem dX9_lose_34 : decode cX9_lose 34 = .ok (.iload_n 2, 1) := by decide +kernel
theorem dX9_lose_35 : decode cX9_lose 35 = .ok (.ireturn, 1) := by decide +kernel
set_option maxRecDepth 20000 in
theorem ggX9_put_X9_isSheet : GoodIn wsX9_put wsX9_isSheet := goodIn_r _ [8, 9, 10, 7, 11] (by decide +kernel) (by decide +kernel)
set_option maxRecDepth 20000 in
theorem gX9_put_X9_isSheet : GoodIn wsX9_put (va_wsS RX9 92 yX9_isSheet wsX9_isSheet) := goodIn_app (goodIn_of _ (by decide +kernel)) ggX9_put_X9_isSheet
set_option maxRecDepth 20000 in
theorem ggX9_put_X9_fails : GoodIn wsX9_put wsX9_fails := goodIn_r _ [15, 1, 16, 17, 18, 19, 20, 21, 22, 23, 24, 25, 26, 27, 28, 29, 30, 31, 32, 33, 34, 35, 36, 37, 38, 39, 40, 41, 42, 43, 44, 45, 46, 47] (by decide +kernel) (by decide +kernel)
set_option maxRecDepth 20000 in
theorem gX9_put_X9_fails : GoodIn wsX9_put (wsV RX9 103 RX9 yX9_fails wsX9_fails) := goodIn_app (goodIn_of _ (by decide +kernel)) ggX9_put_X9_fails
set_option maxRecDepth 20000 in
theorem ggX9_put_X9_within : GoodIn wsX9_put wsX9_within := goodIn_r _ [11] (by decide +kernel) (by decide +kernel)
set_option maxRecDepth 20000 in
theorem gX9_put_X9_within : GoodIn wsX9_put (va_wsS RX9 75 yX9_within wsX9_within) := goodIn_app (goodIn_of _ (by decide +kernel)) ggX9_put_X9_within
theorem dX9_put_0 : decode cX9_put 0 = .ok (.aload_n 0, 1) := by decide +kernel
theorem dX9_put_1 : decode cX9_put 1 = .ok (.iconst 0, 1) := by decide +kernel
theorem dX9_put_2 : decode cX9_put 2 = .ok (.putfield 69, 3) := by decide +kernel
theorem dX9_put_5 : decode cX9_put 5 = .ok (.iload_n 1, 1) := by decide +kernel
theorem dX9_put_6 : decode cX9_put 6 = .ok (.invokestatic 92, 3) := by decide +kernel
theorem dX9_put_9 : decode cX9_put 9 = .ok (.ifCond .ne 5, 3) := by decide +kernel
theorem dX9_put_12 : decode cX9_put 12 = .ok (.iconst (-1), 1) := by decide +kernel
theorem dX9_put_13 : decode cX9_put 13 = .ok (.ireturn, 1) := by decide +kernel
theorem dX9_put_14 : decode cX9_put 14 = .ok (.aload_n 0, 1) := by decide +kernel
theorem dX9_put_15 : decode cX9_put 15 = .ok (.getfield 9, 3) := by decide +kernel
theorem dX9_put_18 : decode cX9_put 18 = .ok (.iload_n 1, 1) := by decide +kernel
theorem dX9_put_19 : decode cX9_put 19 = .ok (.iaload, 1) := by decide +kernel
theorem dX9_put_20 : decode cX9_put 20 = .ok (.bipush (-9), 2) := by decide +kernel
theorem dX9_put_22 : decode cX9_put 22 = .ok (.if_icmp .ne 9, 3) := by decide +kernel
theorem dX9_put_25 : decode cX9_put 25 = .ok (.aload_n 0, 1) := by decide +kernel
theorem dX9_put_26 : decode cX9_put 26 = .ok (.iconst 1, 1) := by decide +kernel
theorem dX9_put_27 : decode cX9_put 27 = .ok (.invokevirtual 103, 3) := by decide +kernel
theorem dX9_put_30 : decode cX9_put 30 = .ok (.ireturn, 1) := by decide +kernel
theorem dX9_put_31 : decode cX9_put 31 = .ok (.iload_n 2, 1) := by decide +kernel
theorem dX9_put_32 : decode cX9_put 32 = .ok (.iconst 0, 1) := by decide +kernel
theorem dX9_put_33 : decode cX9_put 33 = .ok (.aload_n 0, 1) := by decide +kernel
theorem dX9_put_34 : decode cX9_put 34 = .ok (.getfield 13, 3) := by decide +kernel
theorem dX9_put_37 : decode cX9_put 37 = .ok (.iload_n 1, 1) := by decide +kernel
theorem dX9_put_38 : decode cX9_put 38 = .ok (.iaload, 1) := by decide +kernel
theorem dX9_put_39 : decode cX9_put 39 = .ok (.iconst 1, 1) := by decide +kernel
theorem dX9_put_40 : decode cX9_put 40 = .ok (.isub, 1) := by decide +kernel
theorem dX9_put_41 : decode cX9_put 41 = .ok (.invokestatic 75, 3) := by decide +kernel
theorem dX9_put_44 : decode cX9_put 44 = .ok (.ifCond .ne 9, 3) := by decide +kernel
theorem dX9_put_47 : decode cX9_put 47 = .ok (.aload_n 0, 1) := by decide +kernel
theorem dX9_put_48 : decode cX9_put 48 = .ok (.iconst 3, 1) := by decide +kernel
theorem dX9_put_49 : decode cX9_put 49 = .ok (.invokevirtual 103, 3) := by decide +kernel
theorem dX9_put_52 : decode cX9_put 52 = .ok (.ireturn, 1) := by decide +kernel
theorem dX9_put_53 : decode cX9_put 53 = .ok (.aload_n 0, 1) := by decide +kernel
theorem dX9_put_54 : decode cX9_put 54 = .ok (.getfield 16, 3) := by decide +kernel
theorem dX9_put_57 : decode cX9_put 57 = .ok (.bipush 60, 2) := by decide +kernel
theorem dX9_put_59 : decode cX9_put 59 = .ok (.iload_n 1, 1) := by decide +kernel
theorem dX9_put_60 : decode cX9_put 60 = .ok (.imul, 1) := by decide +kernel
theorem dX9_put_61 : decode cX9_put 61 = .ok (.iload_n 2, 1) := by decide +kernel
theorem dX9_put_62 : decode cX9_put 62 = .ok (.iadd, 1) := by decide +kernel
theorem dX9_put_63 : decode cX9_put 63 = .ok (.aload_n 0, 1) := by decide +kernel
theorem dX9_put_64 : decode cX9_put 64 = .ok (.getfield 9, 3) := by decide +kernel
theorem dX9_put_67 : decode cX9_put 67 = .ok (.iload_n 1, 1) := by decide +kernel
theorem dX9_put_68 : decode cX9_put 68 = .ok (.iaload, 1) := by decide +kernel
theorem dX9_put_69 : decode cX9_put 69 = .ok (.ifCond .ne 8, 3) := by decide +kernel
theorem dX9_put_72 : decode cX9_put 72 = .ok (.iload_n 3, 1) := by decide +kernel
theorem dX9_put_73 : decode cX9_put 73 = .ok (.i2b, 1) := by decide +kernel
theorem dX9_put_74 : decode cX9_put 74 = .ok (.goto 19, 3) := by decide +kernel
theorem dX9_put_77 : decode cX9_put 77 = .ok (.aload_n 0, 1) := by decide +kernel
theorem dX9_put_78 : decode cX9_put 78 = .ok (.getfield 9, 3) := by decide +kernel
theorem dX9_put_81 : decode cX9_put 81 = .ok (.iload_n 1, 1) := by decide +kernel
theorem dX9_put_82 : decode cX9_put 82 = .ok (.iaload, 1) := by decide +kernel
theorem dX9_put_83 : decode cX9_put 83 = .ok (.iconst 1, 1) := by decide +kernel
theorem dX9_put_84 : decode cX9_put 84 = .ok (.if_icmp .ne 8, 3) := by decide +kernel
theorem dX9_put_87 : decode cX9_put 87 = .ok (.iload_n 3, 1) := by decide +kernel
theorem dX9_put_88 : decode cX9_put 88 = .ok (.i2s, 1) := by decide +kernel
theorem dX9_put_89 : decode cX9_put 89 = .ok (.goto 4, 3) := by decide +kernel
theorem dX9_put_92 : decode cX9_put 92 = .ok (.iload_n 3, 1) := by decide +kernel
theorem dX9_put_93 : decode cX9_put 93 = .ok (.iastore, 1) := by decide +kernel
theorem dX9_put_94 : decode cX9_put 94 = .ok (.iconst 1, 1) := by decide +kernel
theorem dX9_put_95 : decode cX9_put 95 = .ok (.ireturn, 1) := by decide +kernel
set_option maxRecDepth 20000 in
theorem ggX9_cell_X9_isSheet : GoodIn wsX9_cell wsX9_isSheet := goodIn_r _ [9, 10, 11, 8, 12] (by decide +kernel) (by decide +kernel)
set_option maxRecDepth 20000 in
theorem gX9_cell_X9_isSheet : GoodIn wsX9_cell (va_wsS RX9 92 yX9_isSheet wsX9_isSheet) := goodIn_app (goodIn_of _ (by decide +kernel)) ggX9_cell_X9_isSheet
set_option maxRecDepth 20000 in
theorem ggX9_cell_X9_isSort : GoodIn wsX9_cell wsX9_isSort := goodIn_r _ [15, 10, 11, 8, 12] (by decide +kernel) (by decide +kernel)
set_option maxRecDepth 20000 in
theorem gX9_cell_X9_isSort : GoodIn wsX9_cell (va_wsS RX9 96 yX9_isSort wsX9_isSort) := goodIn_app (goodIn_of _ (by decide +kernel)) ggX9_cell_X9_isSort
set_option maxRecDepth 20000 in
theorem ggX9_cell_X9_lost : GoodIn wsX9_cell wsX9_lost := goodIn_r _ [19, 1, 2, 20, 21, 22, 23, 24, 25, 26, 27, 28, 29, 30, 31, 32, 33, 34, 35, 36, 37, 38, 39, 40, 41, 42, 43, 44, 45, 46, 47, 48, 49, 50, 51] (by decide +kernel) (by decide +kernel)
set_option maxRecDepth 20000 in
theorem gX9_cell_X9_lost : GoodIn wsX9_cell (wsV RX9 207 RX9 yX9_lost wsX9_lost) := goodIn_app (goodIn_of _ (by decide +kernel)) ggX9_cell_X9_lost
set_option maxRecDepth 20000 in
theorem ggX9_cell_X9_within : GoodIn wsX9_cell wsX9_within := goodIn_r _ [12] (by decide +kernel) (by decide +kernel)
set_option maxRecDepth 20000 in
theorem gX9_cell_X9_within : GoodIn wsX9_cell (va_wsS RX9 75 yX9_within wsX9_within) := goodIn_app (goodIn_of _ (by decide +kernel)) ggX9_cell_X9_within
theorem dX9_cell_0 : decode cX9_cell 0 = .ok (.aload_n 0, 1) := by decide +kernel
theorem dX9_cell_1 : decode cX9_cell 1 = .ok (.iconst 0, 1) := by decide +kernel
theorem dX9_cell_2 : decode cX9_cell 2 = .ok (.putfield 69, 3) := by decide +kernel
theorem dX9_cell_5 : decode cX9_cell 5 = .ok (.iload_n 1, 1) := by decide +kernel
theorem dX9_cell_6 : decode cX9_cell 6 = .ok (.invokestatic 92, 3) := by decide +kernel
theorem dX9_cell_9 : decode cX9_cell 9 = .ok (.ifCond .eq 10, 3) := by decide +kernel
theorem dX9_cell_12 : decode cX9_cell 12 = .ok (.iload_n 3, 1) := by decide +kernel
theorem dX9_cell_13 : decode cX9_cell 13 = .ok (.invokestatic 96, 3) := by decide +kernel
theorem dX9_cell_16 : decode cX9_cell 16 = .ok (.ifCond .ne 7, 3) := by decide +kernel
theorem dX9_cell_19 : decode cX9_cell 19 = .ok (.ldc2_w 73, 3) := by decide +kernel
theorem dX9_cell_22 : decode cX9_cell 22 = .ok (.lreturn, 1) := by decide +kernel
theorem dX9_cell_23 : decode cX9_cell 23 = .ok (.aload_n 0, 1) := by decide +kernel
theorem dX9_cell_24 : decode cX9_cell 24 = .ok (.getfield 9, 3) := by decide +kernel
theorem dX9_cell_27 : decode cX9_cell 27 = .ok (.iload_n 1, 1) := by decide +kernel
theorem dX9_cell_28 : decode cX9_cell 28 = .ok (.iaload, 1) := by decide +kernel
theorem dX9_cell_29 : decode cX9_cell 29 = .ok (.bipush (-9), 2) := by decide +kernel
theorem dX9_cell_31 : decode cX9_cell 31 = .ok (.if_icmp .eq 19, 3) := by decide +kernel
theorem dX9_cell_34 : decode cX9_cell 34 = .ok (.aload_n 0, 1) := by decide +kernel
theorem dX9_cell_35 : decode cX9_cell 35 = .ok (.getfield 9, 3) := by decide +kernel
theorem dX9_cell_38 : decode cX9_cell 38 = .ok (.iload_n 1, 1) := by decide +kernel
theorem dX9_cell_39 : decode cX9_cell 39 = .ok (.iaload, 1) := by decide +kernel
theorem dX9_cell_40 : decode cX9_cell 40 = .ok (.iload_n 3, 1) := by decide +kernel
theorem dX9_cell_41 : decode cX9_cell 41 = .ok (.if_icmp .eq 9, 3) := by decide +kernel
theorem dX9_cell_44 : decode cX9_cell 44 = .ok (.aload_n 0, 1) := by decide +kernel
theorem dX9_cell_45 : decode cX9_cell 45 = .ok (.iconst 2, 1) := by decide +kernel
theorem dX9_cell_46 : decode cX9_cell 46 = .ok (.invokevirtual 207, 3) := by decide +kernel
theorem dX9_cell_49 : decode cX9_cell 49 = .ok (.lreturn, 1) := by decide +kernel
theorem dX9_cell_50 : decode cX9_cell 50 = .ok (.aload_n 0, 1) := by decide +kernel
theorem dX9_cell_51 : decode cX9_cell 51 = .ok (.getfield 9, 3) := by decide +kernel
theorem dX9_cell_54 : decode cX9_cell 54 = .ok (.iload_n 1, 1) := by decide +kernel
theorem dX9_cell_55 : decode cX9_cell 55 = .ok (.iaload, 1) := by decide +kernel
theorem dX9_cell_56 : decode cX9_cell 56 = .ok (.bipush (-9), 2) := by decide +kernel
theorem dX9_cell_58 : decode cX9_cell 58 = .ok (.if_icmp .ne 9, 3) := by decide +kernel
theorem dX9_cell_61 : decode cX9_cell 61 = .ok (.aload_n 0, 1) := by decide +kernel
theorem dX9_cell_62 : decode cX9_cell 62 = .ok (.iconst 1, 1) := by decide +kernel
theorem dX9_cell_63 : decode cX9_cell 63 = .ok (.invokevirtual 207, 3) := by decide +kernel
theorem dX9_cell_66 : decode cX9_cell 66 = .ok (.lreturn, 1) := by decide +kernel
theorem dX9_cell_67 : decode cX9_cell 67 = .ok (.iload_n 2, 1) := by decide +kernel
theorem dX9_cell_68 : decode cX9_cell 68 = .ok (.iconst 0, 1) := by decide +kernel
theorem dX9_cell_69 : decode cX9_cell 69 = .ok (.aload_n 0, 1) := by decide +kernel
theorem dX9_cell_70 : decode cX9_cell 70 = .ok (.getfield 13, 3) := by decide +kernel
theorem dX9_cell_73 : decode cX9_cell 73 = .ok (.iload_n 1, 1) := by decide +kernel
theorem dX9_cell_74 : decode cX9_cell 74 = .ok (.iaload, 1) := by decide +kernel
theorem dX9_cell_75 : decode cX9_cell 75 = .ok (.iconst 1, 1) := by decide +kernel
theorem dX9_cell_76 : decode cX9_cell 76 = .ok (.isub, 1) := by decide +kernel
theorem dX9_cell_77 : decode cX9_cell 77 = .ok (.invokestatic 75, 3) := by decide +kernel
theorem dX9_cell_80 : decode cX9_cell 80 = .ok (.ifCond .ne 9, 3) := by decide +kernel
theorem dX9_cell_83 : decode cX9_cell 83 = .ok (.aload_n 0, 1) := by decide +kernel
theorem dX9_cell_84 : decode cX9_cell 84 = .ok (.iconst 3, 1) := by decide +kernel
theorem dX9_cell_85 : decode cX9_cell 85 = .ok (.invokevirtual 207, 3) := by decide +kernel
theorem dX9_cell_88 : decode cX9_cell 88 = .ok (.lreturn, 1) := by decide +kernel
theorem dX9_cell_89 : decode cX9_cell 89 = .ok (.aload_n 0, 1) := by decide +kernel
theorem dX9_cell_90 : decode cX9_cell 90 = .ok (.getfield 16, 3) := by decide +kernel
theorem dX9_cell_93 : decode cX9_cell 93 = .ok (.bipush 60, 2) := by decide +kernel
theorem dX9_cell_95 : decode cX9_cell 95 = .ok (.iload_n 1, 1) := by decide +kernel
theorem dX9_cell_96 : decode cX9_cell 96 = .ok (.imul, 1) := by decide +kernel
theorem dX9_cell_97 : decode cX9_cell 97 = .ok (.iload_n 2, 1) := by decide +kernel
theorem dX9_cell_98 : decode cX9_cell 98 = .ok (.iadd, 1) := by decide +kernel
theorem dX9_cell_99 : decode cX9_cell 99 = .ok (.iaload, 1) := by decide +kernel
theorem dX9_cell_100 : decode cX9_cell 100 = .ok (.i2l, 1) := by decide +kernel
theorem dX9_cell_101 : decode cX9_cell 101 = .ok (.lreturn, 1) := by decide +kernel
set_option maxRecDepth 20000 in
theorem ggX9_copy_X9_isSheet : GoodIn wsX9_copy wsX9_isSheet := goodIn_r _ [8, 9, 10, 7, 11] (by decide +kernel) (by decide +kernel)
set_option maxRecDepth 20000 in
theorem gX9_copy_X9_isSheet : GoodIn wsX9_copy (va_wsS RX9 92 yX9_isSheet wsX9_isSheet) := goodIn_app (goodIn_of _ (by decide +kernel)) ggX9_copy_X9_isSheet
set_option maxRecDepth 20000 in
theorem ggX9_copy_X9_fails : GoodIn wsX9_copy wsX9_fails := goodIn_r _ [15, 1, 16, 17, 18, 19, 20, 21, 22, 23, 24, 25, 26, 27, 28, 29, 30, 31, 32, 33, 34, 35, 36, 37, 38, 39, 40, 41, 42, 43, 44, 45, 46, 47] (by decide +kernel) (by decide +kernel)
set_option maxRecDepth 20000 in
theorem gX9_copy_X9_fails : GoodIn wsX9_copy (wsV RX9 103 RX9 yX9_fails wsX9_fails) := goodIn_app (goodIn_of _ (by decide +kernel)) ggX9_copy_X9_fails
theorem dX9_copy_0 : decode cX9_copy 0 = .ok (.aload_n 0, 1) := by decide +kernel
theorem dX9_copy_1 : decode cX9_copy 1 = .ok (.iconst 0, 1) := by decide +kernel
theorem dX9_copy_2 : decode cX9_copy 2 = .ok (.putfield 69, 3) := by decide +kernel
theorem dX9_copy_5 : decode cX9_copy 5 = .ok (.iload_n 1, 1) := by decide +kernel
theorem dX9_copy_6 : decode cX9_copy 6 = .ok (.invokestatic 92, 3) := by decide +kernel
theorem dX9_copy_9 : decode cX9_copy 9 = .ok (.ifCond .eq 10, 3) := by decide +kernel
theorem dX9_copy_12 : decode cX9_copy 12 = .ok (.iload_n 3, 1) := by decide +kernel
theorem dX9_copy_13 : decode cX9_copy 13 = .ok (.invokestatic 92, 3) := by decide +kernel
theorem dX9_copy_16 : decode cX9_copy 16 = .ok (.ifCond .ne 5, 3) := by decide +kernel
theorem dX9_copy_19 : decode cX9_copy 19 = .ok (.iconst (-1), 1) := by decide +kernel
theorem dX9_copy_20 : decode cX9_copy 20 = .ok (.ireturn, 1) := by decide +kernel
theorem dX9_copy_21 : decode cX9_copy 21 = .ok (.aload_n 0, 1) := by decide +kernel
theorem dX9_copy_22 : decode cX9_copy 22 = .ok (.getfield 9, 3) := by decide +kernel
theorem dX9_copy_25 : decode cX9_copy 25 = .ok (.iload_n 1, 1) := by decide +kernel
theorem dX9_copy_26 : decode cX9_copy 26 = .ok (.iaload, 1) := by decide +kernel
theorem dX9_copy_27 : decode cX9_copy 27 = .ok (.bipush (-9), 2) := by decide +kernel
theorem dX9_copy_29 : decode cX9_copy 29 = .ok (.if_icmp .eq 14, 3) := by decide +kernel
theorem dX9_copy_32 : decode cX9_copy 32 = .ok (.aload_n 0, 1) := by decide +kernel
theorem dX9_copy_33 : decode cX9_copy 33 = .ok (.getfield 9, 3) := by decide +kernel
theorem dX9_copy_36 : decode cX9_copy 36 = .ok (.iload_n 3, 1) := by decide +kernel
theorem dX9_copy_37 : decode cX9_copy 37 = .ok (.iaload, 1) := by decide +kernel
theorem dX9_copy_38 : decode cX9_copy 38 = .ok (.bipush (-9), 2) := by decide +kernel
theorem dX9_copy_40 : decode cX9_copy 40 = .ok (.if_icmp .ne 9, 3) := by decide +kernel
theorem dX9_copy_43 : decode cX9_copy 43 = .ok (.aload_n 0, 1) := by decide +kernel
theorem dX9_copy_44 : decode cX9_copy 44 = .ok (.iconst 1, 1) := by decide +kernel
theorem dX9_copy_45 : decode cX9_copy 45 = .ok (.invokevirtual 103, 3) := by decide +kernel
theorem dX9_copy_48 : decode cX9_copy 48 = .ok (.ireturn, 1) := by decide +kernel
theorem dX9_copy_49 : decode cX9_copy 49 = .ok (.aload_n 0, 1) := by decide +kernel
theorem dX9_copy_50 : decode cX9_copy 50 = .ok (.getfield 9, 3) := by decide +kernel
theorem dX9_copy_53 : decode cX9_copy 53 = .ok (.iload_n 1, 1) := by decide +kernel
theorem dX9_copy_54 : decode cX9_copy 54 = .ok (.iaload, 1) := by decide +kernel
theorem dX9_copy_55 : decode cX9_copy 55 = .ok (.aload_n 0, 1) := by decide +kernel
theorem dX9_copy_56 : decode cX9_copy 56 = .ok (.getfield 9, 3) := by decide +kernel
theorem dX9_copy_59 : decode cX9_copy 59 = .ok (.iload_n 3, 1) := by decide +kernel
theorem dX9_copy_60 : decode cX9_copy 60 = .ok (.iaload, 1) := by decide +kernel
theorem dX9_copy_61 : decode cX9_copy 61 = .ok (.if_icmp .eq 9, 3) := by decide +kernel
theorem dX9_copy_64 : decode cX9_copy 64 = .ok (.aload_n 0, 1) := by decide +kernel
theorem dX9_copy_65 : decode cX9_copy 65 = .ok (.iconst 2, 1) := by decide +kernel
theorem dX9_copy_66 : decode cX9_copy 66 = .ok (.invokevirtual 103, 3) := by decide +kernel
theorem dX9_copy_69 : decode cX9_copy 69 = .ok (.ireturn, 1) := by decide +kernel
theorem dX9_copy_70 : decode cX9_copy 70 = .ok (.iload_n 2, 1) := by decide +kernel
theorem dX9_copy_71 : decode cX9_copy 71 = .ok (.ifCond .lt 38, 3) := by decide +kernel
theorem dX9_copy_74 : decode cX9_copy 74 = .ok (.iload 4, 2) := by decide +kernel
theorem dX9_copy_76 : decode cX9_copy 76 = .ok (.ifCond .lt 33, 3) := by decide +kernel
theorem dX9_copy_79 : decode cX9_copy 79 = .ok (.iload 5, 2) := by decide +kernel
theorem dX9_copy_81 : decode cX9_copy 81 = .ok (.ifCond .lt 28, 3) := by decide +kernel
theorem dX9_copy_84 : decode cX9_copy 84 = .ok (.iload_n 2, 1) := by decide +kernel
theorem dX9_copy_85 : decode cX9_copy 85 = .ok (.aload_n 0, 1) := by decide +kernel
theorem dX9_copy_86 : decode cX9_copy 86 = .ok (.getfield 13, 3) := by decide +kernel
theorem dX9_copy_89 : decode cX9_copy 89 = .ok (.iload_n 1, 1) := by decide +kernel
theorem dX9_copy_90 : decode cX9_copy 90 = .ok (.iaload, 1) := by decide +kernel
theorem dX9_copy_91 : decode cX9_copy 91 = .ok (.if_icmp .gt 18, 3) := by decide +kernel
theorem dX9_copy_94 : decode cX9_copy 94 = .ok (.iload 4, 2) := by decide +kernel
theorem dX9_copy_96 : decode cX9_copy 96 = .ok (.aload_n 0, 1) := by decide +kernel
theorem dX9_copy_97 : decode cX9_copy 97 = .ok (.getfield 13, 3) := by decide +kernel
theorem dX9_copy_100 : decode cX9_copy 100 = .ok (.iload_n 3, 1) := by decide +kernel
theorem dX9_copy_101 : decode cX9_copy 101 = .ok (.iaload, 1) := by decide +kernel
theorem dX9_copy_102 : decode cX9_copy 102 = .ok (.if_icmp .gt 7, 3) := by decide +kernel
theorem dX9_copy_105 : decode cX9_copy 105 = .ok (.iconst 1, 1) := by decide +kernel
theorem dX9_copy_106 : decode cX9_copy 106 = .ok (.goto 4, 3) := by decide +kernel
theorem dX9_copy_109 : decode cX9_copy 109 = .ok (.iconst 0, 1) := by decide +kernel
theorem dX9_copy_110 : decode cX9_copy 110 = .ok (.istore 6, 2) := by decide +kernel
theorem dX9_copy_112 : decode cX9_copy 112 = .ok (.iload 6, 2) := by decide +kernel
theorem dX9_copy_114 : decode cX9_copy 114 = .ok (.ifCond .eq 30, 3) := by decide +kernel
theorem dX9_copy_117 : decode cX9_copy 117 = .ok (.iload 5, 2) := by decide +kernel
theorem dX9_copy_119 : decode cX9_copy 119 = .ok (.aload_n 0, 1) := by decide +kernel
theorem dX9_copy_120 : decode cX9_copy 120 = .ok (.getfield 13, 3) := by decide +kernel
theorem dX9_copy_123 : decode cX9_copy 123 = .ok (.iload_n 1, 1) := by decide +kernel
theorem dX9_copy_124 : decode cX9_copy 124 = .ok (.iaload, 1) := by decide +kernel
theorem dX9_copy_125 : decode cX9_copy 125 = .ok (.iload_n 2, 1) := by decide +kernel
theorem dX9_copy_126 : decode cX9_copy 126 = .ok (.isub, 1) := by decide +kernel
theorem dX9_copy_127 : decode cX9_copy 127 = .ok (.if_icmp .gt 17, 3) := by decide +kernel
theorem dX9_copy_130 : decode cX9_copy 130 = .ok (.iload 5, 2) := by decide +kernel
theorem dX9_copy_132 : decode cX9_copy 132 = .ok (.aload_n 0, 1) := by decide +kernel
theorem dX9_copy_133 : decode cX9_copy 133 = .ok (.getfield 13, 3) := by decide +kernel
theorem dX9_copy_136 : decode cX9_copy 136 = .ok (.iload_n 3, 1) := by decide +kernel
theorem dX9_copy_137 : decode cX9_copy 137 = .ok (.iaload, 1) := by decide +kernel
theorem dX9_copy_138 : decode cX9_copy 138 = .ok (.iload 4, 2) := by decide +kernel
theorem dX9_copy_140 : decode cX9_copy 140 = .ok (.isub, 1) := by decide +kernel
theorem dX9_copy_141 : decode cX9_copy 141 = .ok (.if_icmp .le 9, 3) := by decide +kernel
theorem dX9_copy_144 : decode cX9_copy 144 = .ok (.aload_n 0, 1) := by decide +kernel
theorem dX9_copy_145 : decode cX9_copy 145 = .ok (.iconst 3, 1) := by decide +kernel
theorem dX9_copy_146 : decode cX9_copy 146 = .ok (.invokevirtual 103, 3) := by decide +kernel
theorem dX9_copy_149 : decode cX9_copy 149 = .ok (.ireturn, 1) := by decide +kernel
theorem dX9_copy_150 : decode cX9_copy 150 = .ok (.iload_n 2, 1) := by decide +kernel
theorem dX9_copy_151 : decode cX9_copy 151 = .ok (.iload 4, 2) := by decide +kernel
theorem dX9_copy_153 : decode cX9_copy 153 = .ok (.if_icmp .ge 7, 3) := by decide +kernel
theorem dX9_copy_156 : decode cX9_copy 156 = .ok (.iconst 1, 1) := by decide +kernel
theorem dX9_copy_157 : decode cX9_copy 157 = .ok (.goto 4, 3) := by decide +kernel
theorem dX9_copy_160 : decode cX9_copy 160 = .ok (.iconst 0, 1) := by decide +kernel
theorem dX9_copy_161 : decode cX9_copy 161 = .ok (.istore 7, 2) := by decide +kernel
theorem dX9_copy_163 : decode cX9_copy 163 = .ok (.iconst 0, 1) := by decide +kernel
theorem dX9_copy_164 : decode cX9_copy 164 = .ok (.istore 8, 2) := by decide +kernel
theorem dX9_copy_166 : decode cX9_copy 166 = .ok (.iload 8, 2) := by decide +kernel
theorem dX9_copy_168 : decode cX9_copy 168 = .ok (.iload 5, 2) := by decide +kernel
theorem dX9_copy_170 : decode cX9_copy 170 = .ok (.if_icmp .ge 57, 3) := by decide +kernel
theorem dX9_copy_173 : decode cX9_copy 173 = .ok (.iload 7, 2) := by decide +kernel
theorem dX9_copy_175 : decode cX9_copy 175 = .ok (.ifCond .eq 13, 3) := by decide +kernel
theorem dX9_copy_178 : decode cX9_copy 178 = .ok (.iload 5, 2) := by decide +kernel
theorem dX9_copy_180 : decode cX9_copy 180 = .ok (.iconst 1, 1) := by decide +kernel
theorem dX9_copy_181 : decode cX9_copy 181 = .ok (.isub, 1) := by decide +kernel
theorem dX9_copy_182 : decode cX9_copy 182 = .ok (.iload 8, 2) := by decide +kernel
theorem dX9_copy_184 : decode cX9_copy 184 = .ok (.isub, 1) := by decide +kernel
theorem dX9_copy_185 : decode cX9_copy 185 = .ok (.goto 5, 3) := by decide +kernel
theorem dX9_copy_188 : decode cX9_copy 188 = .ok (.iload 8, 2) := by decide +kernel
theorem dX9_copy_190 : decode cX9_copy 190 = .ok (.istore 9, 2) := by decide +kernel
theorem dX9_copy_192 : decode cX9_copy 192 = .ok (.aload_n 0, 1) := by decide +kernel
theorem dX9_copy_193 : decode cX9_copy 193 = .ok (.getfield 16, 3) := by decide +kernel
theorem dX9_copy_196 : decode cX9_copy 196 = .ok (.bipush 60, 2) := by decide +kernel
theorem dX9_copy_198 : decode cX9_copy 198 = .ok (.iload_n 3, 1) := by decide +kernel
theorem dX9_copy_199 : decode cX9_copy 199 = .ok (.imul, 1) := by decide +kernel
theorem dX9_copy_200 : decode cX9_copy 200 = .ok (.iload 4, 2) := by decide +kernel
theorem dX9_copy_202 : decode cX9_copy 202 = .ok (.iadd, 1) := by decide +kernel
theorem dX9_copy_203 : decode cX9_copy 203 = .ok (.iload 9, 2) := by decide +kernel
theorem dX9_copy_205 : decode cX9_copy 205 = .ok (.iadd, 1) := by decide +kernel
theorem dX9_copy_206 : decode cX9_copy 206 = .ok (.aload_n 0, 1) := by decide +kernel
theorem dX9_copy_207 : decode cX9_copy 207 = .ok (.getfield 16, 3) := by decide +kernel
theorem dX9_copy_210 : decode cX9_copy 210 = .ok (.bipush 60, 2) := by decide +kernel
theorem dX9_copy_212 : decode cX9_copy 212 = .ok (.iload_n 1, 1) := by decide +kernel
theorem dX9_copy_213 : decode cX9_copy 213 = .ok (.imul, 1) := by decide +kernel
theorem dX9_copy_214 : decode cX9_copy 214 = .ok (.iload_n 2, 1) := by decide +kernel
theorem dX9_copy_215 : decode cX9_copy 215 = .ok (.iadd, 1) := by decide +kernel
theorem dX9_copy_216 : decode cX9_copy 216 = .ok (.iload 9, 2) := by decide +kernel
theorem dX9_copy_218 : decode cX9_copy 218 = .ok (.iadd, 1) := by decide +kernel
theorem dX9_copy_219 : decode cX9_copy 219 = .ok (.iaload, 1) := by decide +kernel
theorem dX9_copy_220 : decode cX9_copy 220 = .ok (.iastore, 1) := by decide +kernel
theorem dX9_copy_221 : decode cX9_copy 221 = .ok (.iinc 8 1, 3) := by decide +kernel
theorem dX9_copy_224 : decode cX9_copy 224 = .ok (.goto (-58), 3) := by decide +kernel
theorem dX9_copy_227 : decode cX9_copy 227 = .ok (.iload 5, 2) := by decide +kernel
theorem dX9_copy_229 : decode cX9_copy 229 = .ok (.ireturn, 1) := by decide +kernel
theorem dX9_begins_0 : decode cX9_begins 0 = .ok (.aload_n 0, 1) := by decide +kernel
theorem dX9_begins_1 : decode cX9_begins 1 = .ok (.bipush 31, 2) := by decide +kernel
theorem dX9_begins_3 : decode cX9_begins 3 = .ok (.aload_n 0, 1) := by decide +kernel
theorem dX9_begins_4 : decode cX9_begins 4 = .ok (.getfield 276, 3) := by decide +kernel
theorem dX9_begins_7 : decode cX9_begins 7 = .ok (.imul, 1) := by decide +kernel
theorem dX9_begins_8 : decode cX9_begins 8 = .ok (.iload_n 1, 1) := by decide +kernel
theorem dX9_begins_9 : decode cX9_begins 9 = .ok (.iadd, 1) := by decide +kernel
theorem dX9_begins_10 : decode cX9_begins 10 = .ok (.putfield 276, 3) := by decide +kernel
theorem dX9_begins_13 : decode cX9_begins 13 = .ok (.return_, 1) := by decide +kernel
set_option maxRecDepth 20000 in
theorem ggX9_tell_X9_isBell : GoodIn wsX9_tell wsX9_isBell := goodIn_r _ [7, 8, 14, 15, 16, 17, 18, 19, 20, 21, 22, 23, 24, 25, 26, 27, 28, 29, 30, 31, 32, 33, 34, 35, 36, 37, 38, 39, 40, 41, 42, 43, 44, 45] (by decide +kernel) (by decide +kernel)
set_option maxRecDepth 20000 in
theorem gX9_tell_X9_isBell : GoodIn wsX9_tell (wsV RX9 145 RX9 yX9_isBell wsX9_isBell) := goodIn_app (goodIn_of _ (by decide +kernel)) ggX9_tell_X9_isBell
set_option maxRecDepth 20000 in
theorem ggX9_tell_X9_begins : GoodIn wsX9_tell wsX9_begins := goodIn_r _ [12, 13, 14, 15, 16, 17, 18, 19, 20, 21, 22, 23, 24, 25, 26, 27, 28, 29, 30, 31, 32, 33, 34, 35, 36, 37, 38, 39, 40, 41, 42, 43, 44, 45] (by decide +kernel) (by decide +kernel)
set_option maxRecDepth 20000 in
theorem gX9_tell_X9_begins : GoodIn wsX9_tell (wsV RX9 279 RX9 yX9_begins wsX9_begins) := goodIn_app (goodIn_of _ (by decide +kernel)) ggX9_tell_X9_begins
theorem dX9_tell_0 : decode cX9_tell 0 = .ok (.aload_n 0, 1) := by decide +kernel
theorem dX9_tell_1 : decode cX9_tell 1 = .ok (.iload_n 1, 1) := by decide +kernel
theorem dX9_tell_2 : decode cX9_tell 2 = .ok (.invokevirtual 145, 3) := by decide +kernel
theorem dX9_tell_5 : decode cX9_tell 5 = .ok (.ifCond .ne 5, 3) := by decide +kernel
theorem dX9_tell_8 : decode cX9_tell 8 = .ok (.iconst (-1), 1) := by decide +kernel
theorem dX9_tell_9 : decode cX9_tell 9 = .ok (.ireturn, 1) := by decide +kernel
theorem dX9_tell_10 : decode cX9_tell 10 = .ok (.aload_n 0, 1) := by decide +kernel
theorem dX9_tell_11 : decode cX9_tell 11 = .ok (.getfield 35, 3) := by decide +kernel
theorem dX9_tell_14 : decode cX9_tell 14 = .ok (.iload_n 1, 1) := by decide +kernel
theorem dX9_tell_15 : decode cX9_tell 15 = .ok (.iaload, 1) := by decide +kernel
theorem dX9_tell_16 : decode cX9_tell 16 = .ok (.istore_n 2, 1) := by decide +kernel
theorem dX9_tell_17 : decode cX9_tell 17 = .ok (.aload_n 0, 1) := by decide +kernel
theorem dX9_tell_18 : decode cX9_tell 18 = .ok (.getfield 29, 3) := by decide +kernel
theorem dX9_tell_21 : decode cX9_tell 21 = .ok (.iload_n 1, 1) := by decide +kernel
theorem dX9_tell_22 : decode cX9_tell 22 = .ok (.iaload, 1) := by decide +kernel
theorem dX9_tell_23 : decode cX9_tell 23 = .ok (.lookupswitch 67 #[(1, 25), (2, 40)], 25) := by decide +kernel
theorem dX9_tell_48 : decode cX9_tell 48 = .ok (.aload_n 0, 1) := by decide +kernel
theorem dX9_tell_49 : decode cX9_tell 49 = .ok (.iconst 2, 1) := by decide +kernel
theorem dX9_tell_50 : decode cX9_tell 50 = .ok (.invokevirtual 279, 3) := by decide +kernel
theorem dX9_tell_53 : decode cX9_tell 53 = .ok (.aload_n 0, 1) := by decide +kernel
theorem dX9_tell_54 : decode cX9_tell 54 = .ok (.iconst 1, 1) := by decide +kernel
theorem dX9_tell_55 : decode cX9_tell 55 = .ok (.invokevirtual 279, 3) := by decide +kernel
theorem dX9_tell_58 : decode cX9_tell 58 = .ok (.iload_n 2, 1) := by decide +kernel
theorem dX9_tell_59 : decode cX9_tell 59 = .ok (.bipush 100, 2) := by decide +kernel
theorem dX9_tell_61 : decode cX9_tell 61 = .ok (.iadd, 1) := by decide +kernel
theorem dX9_tell_62 : decode cX9_tell 62 = .ok (.ireturn, 1) := by decide +kernel
theorem dX9_tell_63 : decode cX9_tell 63 = .ok (.aload_n 0, 1) := by decide +kernel
theorem dX9_tell_64 : decode cX9_tell 64 = .ok (.iconst 3, 1) := by decide +kernel
theorem dX9_tell_65 : decode cX9_tell 65 = .ok (.invokevirtual 279, 3) := by decide +kernel
theorem dX9_tell_68 : decode cX9_tell 68 = .ok (.aload_n 0, 1) := by decide +kernel
theorem dX9_tell_69 : decode cX9_tell 69 = .ok (.iconst 2, 1) := by decide +kernel
theorem dX9_tell_70 : decode cX9_tell 70 = .ok (.invokevirtual 279, 3) := by decide +kernel
theorem dX9_tell_73 : decode cX9_tell 73 = .ok (.aload_n 0, 1) := by decide +kernel
theorem dX9_tell_74 : decode cX9_tell 74 = .ok (.iconst 1, 1) := by decide +kernel
theorem dX9_tell_75 : decode cX9_tell 75 = .ok (.invokevirtual 279, 3) := by decide +kernel
theorem dX9_tell_78 : decode cX9_tell 78 = .ok (.aload_n 0, 1) := by decide +kernel
theorem dX9_tell_79 : decode cX9_tell 79 = .ok (.iconst 1, 1) := by decide +kernel
theorem dX9_tell_80 : decode cX9_tell 80 = .ok (.invokevirtual 279, 3) := by decide +kernel
theorem dX9_tell_83 : decode cX9_tell 83 = .ok (.iconst 2, 1) := by decide +kernel
theorem dX9_tell_84 : decode cX9_tell 84 = .ok (.iload_n 2, 1) := by decide +kernel
theorem dX9_tell_85 : decode cX9_tell 85 = .ok (.imul, 1) := by decide +kernel
theorem dX9_tell_86 : decode cX9_tell 86 = .ok (.bipush 100, 2) := by decide +kernel
theorem dX9_tell_88 : decode cX9_tell 88 = .ok (.iadd, 1) := by decide +kernel
theorem dX9_tell_89 : decode cX9_tell 89 = .ok (.ireturn, 1) := by decide +kernel
theorem dX9_tell_90 : decode cX9_tell 90 = .ok (.aload_n 0, 1) := by decide +kernel
theorem dX9_tell_91 : decode cX9_tell 91 = .ok (.iconst 1, 1) := by decide +kernel
theorem dX9_tell_92 : decode cX9_tell 92 = .ok (.invokevirtual 279, 3) := by decide +kernel
theorem dX9_tell_95 : decode cX9_tell 95 = .ok (.iload_n 2, 1) := by decide +kernel
theorem dX9_tell_96 : decode cX9_tell 96 = .ok (.ireturn, 1) := by decide +kernel
set_option maxRecDepth 20000 in
theorem ggX9_bless_X9_isBell : GoodIn wsX9_bless wsX9_isBell := goodIn_r _ [6, 7, 13, 14, 15, 16, 17, 18, 19, 20, 21, 22, 23, 24, 25, 26, 27, 28, 29, 30, 31, 32, 33, 34, 35, 36, 37, 38, 39, 40, 41, 42, 43, 44] (by decide +kernel) (by decide +kernel)
set_option maxRecDepth 20000 in
theorem gX9_bless_X9_isBell : GoodIn wsX9_bless (wsV RX9 145 RX9 yX9_isBell wsX9_isBell) := goodIn_app (goodIn_of _ (by decide +kernel)) ggX9_bless_X9_isBell
set_option maxRecDepth 20000 in
theorem ggX9_bless_X9_begins : GoodIn wsX9_bless wsX9_begins := goodIn_r _ [11, 12, 13, 14, 15, 16, 17, 18, 19, 20, 21, 22, 23, 24, 25, 26, 27, 28, 29, 30, 31, 32, 33, 34, 35, 36, 37, 38, 39, 40, 41, 42, 43, 44] (by decide +kernel) (by decide +kernel)
set_option maxRecDepth 20000 in
theorem gX9_bless_X9_begins : GoodIn wsX9_bless (wsV RX9 279 RX9 yX9_begins wsX9_begins) := goodIn_app (goodIn_of _ (by decide +kernel)) ggX9_bless_X9_begins
theorem dX9_bless_0 : decode cX9_bless 0 = .ok (.aload_n 0, 1) := by decide +kernel
theorem dX9_bless_1 : decode cX9_bless 1 = .ok (.iload_n 1, 1) := by decide +kernel
theorem dX9_bless_2 : decode cX9_bless 2 = .ok (.invokevirtual 145, 3) := by decide +kernel
theorem dX9_bless_5 : decode cX9_bless 5 = .ok (.ifCond .ne 5, 3) := by decide +kernel
theorem dX9_bless_8 : decode cX9_bless 8 = .ok (.iconst (-1), 1) := by decide +kernel
theorem dX9_bless_9 : decode cX9_bless 9 = .ok (.ireturn, 1) := by decide +kernel
theorem dX9_bless_10 : decode cX9_bless 10 = .ok (.aload_n 0, 1) := by decide +kernel
theorem dX9_bless_11 : decode cX9_bless 11 = .ok (.aload_n 0, 1) := by decide +kernel
theorem dX9_bless_12 : decode cX9_bless 12 = .ok (.getfield 29, 3) := by decide +kernel
theorem dX9_bless_15 : decode cX9_bless 15 = .ok (.iload_n 1, 1) := by decide +kernel
theorem dX9_bless_16 : decode cX9_bless 16 = .ok (.iaload, 1) := by decide +kernel
theorem dX9_bless_17 : decode cX9_bless 17 = .ok (.iconst 2, 1) := by decide +kernel
theorem dX9_bless_18 : decode cX9_bless 18 = .ok (.if_icmp .ne 7, 3) := by decide +kernel
theorem dX9_bless_21 : decode cX9_bless 21 = .ok (.iconst 5, 1) := by decide +kernel
theorem dX9_bless_22 : decode cX9_bless 22 = .ok (.goto 4, 3) := by decide +kernel
theorem dX9_bless_25 : decode cX9_bless 25 = .ok (.iconst 4, 1) := by decide +kernel
theorem dX9_bless_26 : decode cX9_bless 26 = .ok (.invokevirtual 279, 3) := by decide +kernel
theorem dX9_bless_29 : decode cX9_bless 29 = .ok (.aload_n 0, 1) := by decide +kernel
theorem dX9_bless_30 : decode cX9_bless 30 = .ok (.getfield 29, 3) := by decide +kernel
theorem dX9_bless_33 : decode cX9_bless 33 = .ok (.iload_n 1, 1) := by decide +kernel
theorem dX9_bless_34 : decode cX9_bless 34 = .ok (.iaload, 1) := by decide +kernel
theorem dX9_bless_35 : decode cX9_bless 35 = .ok (.iconst 2, 1) := by decide +kernel
theorem dX9_bless_36 : decode cX9_bless 36 = .ok (.if_icmp .ne 8, 3) := by decide +kernel
theorem dX9_bless_39 : decode cX9_bless 39 = .ok (.bipush 60, 2) := by decide +kernel
theorem dX9_bless_41 : decode cX9_bless 41 = .ok (.goto 4, 3) := by decide +kernel
theorem dX9_bless_44 : decode cX9_bless 44 = .ok (.iload_n 1, 1) := by decide +kernel
theorem dX9_bless_45 : decode cX9_bless 45 = .ok (.ireturn, 1) := by decide +kernel
set_option maxRecDepth 20000 in
theorem ggX9_as_X9_isBell : GoodIn wsX9_as wsX9_isBell := goodIn_r _ [7, 8, 16, 17, 18, 19, 20, 21, 22, 23, 24, 25, 26, 27, 28, 29, 30, 31, 32, 33, 34, 35, 36, 37, 38, 39, 40, 41, 42, 43, 44, 45, 46, 47] (by decide +kernel) (by decide +kernel)
set_option maxRecDepth 20000 in
theorem gX9_as_X9_isBell : GoodIn wsX9_as (wsV RX9 145 RX9 yX9_isBell wsX9_isBell) := goodIn_app (goodIn_of _ (by decide +kernel)) ggX9_as_X9_isBell
set_option maxRecDepth 20000 in
theorem ggX9_as_X9_within : GoodIn wsX9_as wsX9_within := goodIn_r _ [11] (by decide +kernel) (by decide +kernel)
set_option maxRecDepth 20000 in
theorem gX9_as_X9_within : GoodIn wsX9_as (va_wsS RX9 75 yX9_within wsX9_within) := goodIn_app (goodIn_of _ (by decide +kernel)) ggX9_as_X9_within
set_option maxRecDepth 20000 in
theorem ggX9_as_X9_fails : GoodIn wsX9_as wsX9_fails := goodIn_r _ [15, 1, 16, 17, 18, 19, 20, 21, 22, 23, 24, 25, 26, 27, 28, 29, 30, 31, 32, 33, 34, 35, 36, 37, 38, 39, 40, 41, 42, 43, 44, 45, 46, 47] (by decide +kernel) (by decide +kernel)
set_option maxRecDepth 20000 in
theorem gX9_as_X9_fails : GoodIn wsX9_as (wsV RX9 103 RX9 yX9_fails wsX9_fails) := goodIn_app (goodIn_of _ (by decide +kernel)) ggX9_as_X9_fails
theorem dX9_as_0 : decode cX9_as 0 = .ok (.aload_n 0, 1) := by decide +kernel
theorem dX9_as_1 : decode cX9_as 1 = .ok (.iconst 0, 1) := by decide +kernel
theorem dX9_as_2 : decode cX9_as 2 = .ok (.putfield 69, 3) := by decide +kernel
theorem dX9_as_5 : decode cX9_as 5 = .ok (.aload_n 0, 1) := by decide +kernel
theorem dX9_as_6 : decode cX9_as 6 = .ok (.iload_n 1, 1) := by decide +kernel
theorem dX9_as_7 : decode cX9_as 7 = .ok (.invokevirtual 145, 3) := by decide +kernel
theorem dX9_as_10 : decode cX9_as 10 = .ok (.ifCond .ne 5, 3) := by decide +kernel
theorem dX9_as_13 : decode cX9_as 13 = .ok (.iconst (-1), 1) := by decide +kernel
theorem dX9_as_14 : decode cX9_as 14 = .ok (.ireturn, 1) := by decide +kernel
theorem dX9_as_15 : decode cX9_as 15 = .ok (.iload_n 2, 1) := by decide +kernel
theorem dX9_as_16 : decode cX9_as 16 = .ok (.iconst 0, 1) := by decide +kernel
theorem dX9_as_17 : decode cX9_as 17 = .ok (.iconst 2, 1) := by decide +kernel
theorem dX9_as_18 : decode cX9_as 18 = .ok (.invokestatic 75, 3) := by decide +kernel
theorem dX9_as_21 : decode cX9_as 21 = .ok (.ifCond .ne 6, 3) := by decide +kernel
theorem dX9_as_24 : decode cX9_as 24 = .ok (.bipush (-2), 2) := by decide +kernel
theorem dX9_as_26 : decode cX9_as 26 = .ok (.ireturn, 1) := by decide +kernel
theorem dX9_as_27 : decode cX9_as 27 = .ok (.aload_n 0, 1) := by decide +kernel
theorem dX9_as_28 : decode cX9_as 28 = .ok (.getfield 29, 3) := by decide +kernel
theorem dX9_as_31 : decode cX9_as 31 = .ok (.iload_n 1, 1) := by decide +kernel
theorem dX9_as_32 : decode cX9_as 32 = .ok (.iaload, 1) := by decide +kernel
theorem dX9_as_33 : decode cX9_as 33 = .ok (.iload_n 2, 1) := by decide +kernel
theorem dX9_as_34 : decode cX9_as 34 = .ok (.if_icmp .lt 7, 3) := by decide +kernel
theorem dX9_as_37 : decode cX9_as 37 = .ok (.iconst 1, 1) := by decide +kernel
theorem dX9_as_38 : decode cX9_as 38 = .ok (.goto 8, 3) := by decide +kernel
theorem dX9_as_41 : decode cX9_as 41 = .ok (.aload_n 0, 1) := by decide +kernel
theorem dX9_as_42 : decode cX9_as 42 = .ok (.iconst 2, 1) := by decide +kernel
theorem dX9_as_43 : decode cX9_as 43 = .ok (.invokevirtual 103, 3) := by decide +kernel
theorem dX9_as_46 : decode cX9_as 46 = .ok (.ireturn, 1) := by decide +kernel
theorem dX9_trace_0 : decode cX9_trace 0 = .ok (.aload_n 0, 1) := by decide +kernel
theorem dX9_trace_1 : decode cX9_trace 1 = .ok (.getfield 276, 3) := by decide +kernel
theorem dX9_trace_4 : decode cX9_trace 4 = .ok (.ireturn, 1) := by decide +kernel
theorem dX9_fault_0 : decode cX9_fault 0 = .ok (.aload_n 0, 1) := by decide +kernel
theorem dX9_fault_1 : decode cX9_fault 1 = .ok (.getfield 69, 3) := by decide +kernel
theorem dX9_fault_4 : decode cX9_fault 4 = .ok (.ireturn, 1) := by decide +kernel
set_option maxRecDepth 20000 in
theorem ggX9_many_X9_all : GoodIn wsX9_many wsX9_all := goodIn_r _ [11, 2, 3, 12, 13, 14, 15, 16, 17, 18, 19, 20, 21, 22, 23, 24, 25, 26, 27, 28, 29, 30, 31, 32, 33, 34, 35, 36, 37, 38, 39, 40, 41, 42, 43] (by decide +kernel) (by decide +kernel)
set_option maxRecDepth 20000 in
theorem gX9_many_X9_all : GoodIn wsX9_many (wsV RX9 85 RX9 yX9_all wsX9_all) := goodIn_app (goodIn_of _ (by decide +kernel)) ggX9_many_X9_all
theorem dX9_many_0 : decode cX9_many 0 = .ok (.iconst 0, 1) := by decide +kernel
theorem dX9_many_1 : decode cX9_many 1 = .ok (.istore_n 2, 1) := by decide +kernel
theorem dX9_many_2 : decode cX9_many 2 = .ok (.iconst 0, 1) := by decide +kernel
theorem dX9_many_3 : decode cX9_many 3 = .ok (.istore_n 3, 1) := by decide +kernel
theorem dX9_many_4 : decode cX9_many 4 = .ok (.iload_n 3, 1) := by decide +kernel
theorem dX9_many_5 : decode cX9_many 5 = .ok (.aload_n 0, 1) := by decide +kernel
theorem dX9_many_6 : decode cX9_many 6 = .ok (.invokevirtual 85, 3) := by decide +kernel
theorem dX9_many_9 : decode cX9_many 9 = .ok (.if_icmp .ge 26, 3) := by decide +kernel
theorem dX9_many_12 : decode cX9_many 12 = .ok (.iload_n 2, 1) := by decide +kernel
theorem dX9_many_13 : decode cX9_many 13 = .ok (.aload_n 0, 1) := by decide +kernel
theorem dX9_many_14 : decode cX9_many 14 = .ok (.getfield 22, 3) := by decide +kernel
theorem dX9_many_17 : decode cX9_many 17 = .ok (.iload_n 3, 1) := by decide +kernel
theorem dX9_many_18 : decode cX9_many 18 = .ok (.baload, 1) := by decide +kernel
theorem dX9_many_19 : decode cX9_many 19 = .ok (.ifCond .eq 7, 3) := by decide +kernel
theorem dX9_many_22 : decode cX9_many 22 = .ok (.iconst 1, 1) := by decide +kernel
theorem dX9_many_23 : decode cX9_many 23 = .ok (.goto 4, 3) := by decide +kernel
theorem dX9_many_26 : decode cX9_many 26 = .ok (.iconst 0, 1) := by decide +kernel
theorem dX9_many_27 : decode cX9_many 27 = .ok (.iadd, 1) := by decide +kernel
theorem dX9_many_28 : decode cX9_many 28 = .ok (.istore_n 2, 1) := by decide +kernel
theorem dX9_many_29 : decode cX9_many 29 = .ok (.iinc 3 1, 3) := by decide +kernel
theorem dX9_many_32 : decode cX9_many 32 = .ok (.goto (-28), 3) := by decide +kernel
theorem dX9_many_35 : decode cX9_many 35 = .ok (.iload_n 1, 1) := by decide +kernel
theorem dX9_many_36 : decode cX9_many 36 = .ok (.tableswitch 76 0 6 #[44, 49, 54, 59, 64, 66, 71], 44) := by decide +kernel
theorem dX9_many_80 : decode cX9_many 80 = .ok (.aload_n 0, 1) := by decide +kernel
theorem dX9_many_81 : decode cX9_many 81 = .ok (.invokevirtual 85, 3) := by decide +kernel
theorem dX9_many_84 : decode cX9_many 84 = .ok (.ireturn, 1) := by decide +kernel
theorem dX9_many_85 : decode cX9_many 85 = .ok (.aload_n 0, 1) := by decide +kernel
theorem dX9_many_86 : decode cX9_many 86 = .ok (.getfield 79, 3) := by decide +kernel
theorem dX9_many_89 : decode cX9_many 89 = .ok (.ireturn, 1) := by decide +kernel
theorem dX9_many_90 : decode cX9_many 90 = .ok (.aload_n 0, 1) := by decide +kernel
theorem dX9_many_91 : decode cX9_many 91 = .ok (.getfield 82, 3) := by decide +kernel
theorem dX9_many_94 : decode cX9_many 94 = .ok (.ireturn, 1) := by decide +kernel
theorem dX9_many_95 : decode cX9_many 95 = .ok (.aload_n 0, 1) := by decide +kernel
theorem dX9_many_96 : decode cX9_many 96 = .ok (.getfield 116, 3) := by decide +kernel
theorem dX9_many_99 : decode cX9_many 99 = .ok (.ireturn, 1) := by decide +kernel
theorem dX9_many_100 : decode cX9_many 100 = .ok (.iload_n 2, 1) := by decide +kernel
theorem dX9_many_101 : decode cX9_many 101 = .ok (.ireturn, 1) := by decide +kernel
theorem dX9_many_102 : decode cX9_many 102 = .ok (.aload_n 0, 1) := by decide +kernel
theorem dX9_many_103 : decode cX9_many 103 = .ok (.getfield 119, 3) := by decide +kernel
theorem dX9_many_106 : decode cX9_many 106 = .ok (.ireturn, 1) := by decide +kernel
theorem dX9_many_107 : decode cX9_many 107 = .ok (.aload_n 0, 1) := by decide +kernel
theorem dX9_many_108 : decode cX9_many 108 = .ok (.getfield 122, 3) := by decide +kernel
theorem dX9_many_111 : decode cX9_many 111 = .ok (.ireturn, 1) := by decide +kernel
theorem dX9_many_112 : decode cX9_many 112 = .ok (.bipush (-2), 2) := by decide +kernel
theorem dX9_many_114 : decode cX9_many 114 = .ok (.ireturn, 1) := by decide +kernel
