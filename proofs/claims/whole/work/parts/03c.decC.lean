theorem dX6_init_0 : decode cX6_init 0 = .ok (.aload_n 0, 1) := by decide +kernel
theorem dX6_init_1 : decode cX6_init 1 = .ok (.invokespecial 1, 3) := by decide +kernel
theorem dX6_init_4 : decode cX6_init 4 = .ok (.aload_n 0, 1) := by decide +kernel
theorem dX6_init_5 : decode cX6_init 5 = .ok (.bipush 30, 2) := by decide +kernel
theorem dX6_init_7 : decode cX6_init 7 = .ok (.newarray .int, 2) := by decide +kernel
theorem dX6_init_9 : decode cX6_init 9 = .ok (.putfield 7, 3) := by decide +kernel
theorem dX6_init_12 : decode cX6_init 12 = .ok (.aload_n 0, 1) := by decide +kernel
theorem dX6_init_13 : decode cX6_init 13 = .ok (.bipush 30, 2) := by decide +kernel
theorem dX6_init_15 : decode cX6_init 15 = .ok (.newarray .boolean, 2) := by decide +kernel
theorem dX6_init_17 : decode cX6_init 17 = .ok (.putfield 13, 3) := by decide +kernel
theorem dX6_init_20 : decode cX6_init 20 = .ok (.aload_n 0, 1) := by decide +kernel
theorem dX6_init_21 : decode cX6_init 21 = .ok (.bipush 120, 2) := by decide +kernel
theorem dX6_init_23 : decode cX6_init 23 = .ok (.newarray .int, 2) := by decide +kernel
theorem dX6_init_25 : decode cX6_init 25 = .ok (.putfield 17, 3) := by decide +kernel
theorem dX6_init_28 : decode cX6_init 28 = .ok (.aload_n 0, 1) := by decide +kernel
theorem dX6_init_29 : decode cX6_init 29 = .ok (.bipush 10, 2) := by decide +kernel
theorem dX6_init_31 : decode cX6_init 31 = .ok (.newarray .int, 2) := by decide +kernel
theorem dX6_init_33 : decode cX6_init 33 = .ok (.putfield 20, 3) := by decide +kernel
theorem dX6_init_36 : decode cX6_init 36 = .ok (.aload_n 0, 1) := by decide +kernel
theorem dX6_init_37 : decode cX6_init 37 = .ok (.bipush 10, 2) := by decide +kernel
theorem dX6_init_39 : decode cX6_init 39 = .ok (.newarray .int, 2) := by decide +kernel
theorem dX6_init_41 : decode cX6_init 41 = .ok (.putfield 23, 3) := by decide +kernel
theorem dX6_init_44 : decode cX6_init 44 = .ok (.aload_n 0, 1) := by decide +kernel
theorem dX6_init_45 : decode cX6_init 45 = .ok (.bipush 20, 2) := by decide +kernel
theorem dX6_init_47 : decode cX6_init 47 = .ok (.newarray .int, 2) := by decide +kernel
theorem dX6_init_49 : decode cX6_init 49 = .ok (.putfield 26, 3) := by decide +kernel
theorem dX6_init_52 : decode cX6_init 52 = .ok (.aload_n 0, 1) := by decide +kernel
theorem dX6_init_53 : decode cX6_init 53 = .ok (.bipush 20, 2) := by decide +kernel
theorem dX6_init_55 : decode cX6_init 55 = .ok (.newarray .int, 2) := by decide +kernel
theorem dX6_init_57 : decode cX6_init 57 = .ok (.putfield 29, 3) := by decide +kernel
theorem dX6_init_60 : decode cX6_init 60 = .ok (.aload_n 0, 1) := by decide +kernel
theorem dX6_init_61 : decode cX6_init 61 = .ok (.bipush 20, 2) := by decide +kernel
theorem dX6_init_63 : decode cX6_init 63 = .ok (.newarray .int, 2) := by decide +kernel
theorem dX6_init_65 : decode cX6_init 65 = .ok (.putfield 32, 3) := by decide +kernel
theorem dX6_init_68 : decode cX6_init 68 = .ok (.aload_n 0, 1) := by decide +kernel
theorem dX6_init_69 : decode cX6_init 69 = .ok (.sipush 200, 3) := by decide +kernel
theorem dX6_init_72 : decode cX6_init 72 = .ok (.newarray .int, 2) := by decide +kernel
theorem dX6_init_74 : decode cX6_init 74 = .ok (.putfield 35, 3) := by decide +kernel
theorem dX6_init_77 : decode cX6_init 77 = .ok (.aload_n 0, 1) := by decide +kernel
theorem dX6_init_78 : decode cX6_init 78 = .ok (.bipush 20, 2) := by decide +kernel
theorem dX6_init_80 : decode cX6_init 80 = .ok (.newarray .int, 2) := by decide +kernel
theorem dX6_init_82 : decode cX6_init 82 = .ok (.putfield 38, 3) := by decide +kernel
theorem dX6_init_85 : decode cX6_init 85 = .ok (.aload_n 0, 1) := by decide +kernel
theorem dX6_init_86 : decode cX6_init 86 = .ok (.bipush 20, 2) := by decide +kernel
theorem dX6_init_88 : decode cX6_init 88 = .ok (.newarray .int, 2) := by decide +kernel
theorem dX6_init_90 : decode cX6_init 90 = .ok (.putfield 41, 3) := by decide +kernel
theorem dX6_init_93 : decode cX6_init 93 = .ok (.aload_n 0, 1) := by decide +kernel
theorem dX6_init_94 : decode cX6_init 94 = .ok (.bipush 20, 2) := by decide +kernel
theorem dX6_init_96 : decode cX6_init 96 = .ok (.newarray .int, 2) := by decide +kernel
theorem dX6_init_98 : decode cX6_init 98 = .ok (.putfield 44, 3) := by decide +kernel
theorem dX6_init_101 : decode cX6_init 101 = .ok (.aload_n 0, 1) := by decide +kernel
theorem dX6_init_102 : decode cX6_init 102 = .ok (.bipush 20, 2) := by decide +kernel
theorem dX6_init_104 : decode cX6_init 104 = .ok (.newarray .int, 2) := by decide +kernel
theorem dX6_init_106 : decode cX6_init 106 = .ok (.putfield 47, 3) := by decide +kernel
theorem dX6_init_109 : decode cX6_init 109 = .ok (.aload_n 0, 1) := by decide +kernel
theorem dX6_init_110 : decode cX6_init 110 = .ok (.bipush 20, 2) := by decide +kernel
theorem dX6_init_112 : decode cX6_init 112 = .ok (.newarray .int, 2) := by decide +kernel
theorem dX6_init_114 : decode cX6_init 114 = .ok (.putfield 50, 3) := by decide +kernel
theorem dX6_init_117 : decode cX6_init 117 = .ok (.aload_n 0, 1) := by decide +kernel
theorem dX6_init_118 : decode cX6_init 118 = .ok (.bipush 20, 2) := by decide +kernel
theorem dX6_init_120 : decode cX6_init 120 = .ok (.newarray .int, 2) := by decide +kernel
theorem dX6_init_122 : decode cX6_init 122 = .ok (.putfield 53, 3) := by decide +kernel
theorem dX6_init_125 : decode cX6_init 125 = .ok (.aload_n 0, 1) := by decide +kernel
theorem dX6_init_126 : decode cX6_init 126 = .ok (.bipush 20, 2) := by decide +kernel
theorem dX6_init_128 : decode cX6_init 128 = .ok (.newarray .int, 2) := by decide +kernel
theorem dX6_init_130 : decode cX6_init 130 = .ok (.putfield 56, 3) := by decide +kernel
theorem dX6_init_133 : decode cX6_init 133 = .ok (.aload_n 0, 1) := by decide +kernel
theorem dX6_init_134 : decode cX6_init 134 = .ok (.bipush 20, 2) := by decide +kernel
theorem dX6_init_136 : decode cX6_init 136 = .ok (.newarray .int, 2) := by decide +kernel
theorem dX6_init_138 : decode cX6_init 138 = .ok (.putfield 59, 3) := by decide +kernel
theorem dX6_init_141 : decode cX6_init 141 = .ok (.aload_n 0, 1) := by decide +kernel
theorem dX6_init_142 : decode cX6_init 142 = .ok (.sipush 600, 3) := by decide +kernel
theorem dX6_init_145 : decode cX6_init 145 = .ok (.newarray .int, 2) := by decide +kernel
theorem dX6_init_147 : decode cX6_init 147 = .ok (.putfield 62, 3) := by decide +kernel
theorem dX6_init_150 : decode cX6_init 150 = .ok (.aload_n 0, 1) := by decide +kernel
theorem dX6_init_151 : decode cX6_init 151 = .ok (.bipush 20, 2) := by decide +kernel
theorem dX6_init_153 : decode cX6_init 153 = .ok (.newarray .int, 2) := by decide +kernel
theorem dX6_init_155 : decode cX6_init 155 = .ok (.putfield 65, 3) := by decide +kernel
theorem dX6_init_158 : decode cX6_init 158 = .ok (.aload_n 0, 1) := by decide +kernel
theorem dX6_init_159 : decode cX6_init 159 = .ok (.bipush 20, 2) := by decide +kernel
theorem dX6_init_161 : decode cX6_init 161 = .ok (.newarray .int, 2) := by decide +kernel
theorem dX6_init_163 : decode cX6_init 163 = .ok (.putfield 68, 3) := by decide +kernel
theorem dX6_init_166 : decode cX6_init 166 = .ok (.aload_n 0, 1) := by decide +kernel
theorem dX6_init_167 : decode cX6_init 167 = .ok (.bipush 30, 2) := by decide +kernel
theorem dX6_init_169 : decode cX6_init 169 = .ok (.newarray .int, 2) := by decide +kernel
theorem dX6_init_171 : decode cX6_init 171 = .ok (.putfield 71, 3) := by decide +kernel
theorem dX6_init_174 : decode cX6_init 174 = .ok (.aload_n 0, 1) := by decide +kernel
theorem dX6_init_175 : decode cX6_init 175 = .ok (.bipush 10, 2) := by decide +kernel
theorem dX6_init_177 : decode cX6_init 177 = .ok (.newarray .int, 2) := by decide +kernel
theorem dX6_init_179 : decode cX6_init 179 = .ok (.putfield 74, 3) := by decide +kernel
theorem dX6_init_182 : decode cX6_init 182 = .ok (.aload_n 0, 1) := by decide +kernel
theorem dX6_init_183 : decode cX6_init 183 = .ok (.bipush 10, 2) := by decide +kernel
theorem dX6_init_185 : decode cX6_init 185 = .ok (.newarray .int, 2) := by decide +kernel
theorem dX6_init_187 : decode cX6_init 187 = .ok (.putfield 77, 3) := by decide +kernel
theorem dX6_init_190 : decode cX6_init 190 = .ok (.aload_n 0, 1) := by decide +kernel
theorem dX6_init_191 : decode cX6_init 191 = .ok (.bipush 20, 2) := by decide +kernel
theorem dX6_init_193 : decode cX6_init 193 = .ok (.newarray .int, 2) := by decide +kernel
theorem dX6_init_195 : decode cX6_init 195 = .ok (.putfield 80, 3) := by decide +kernel
theorem dX6_init_198 : decode cX6_init 198 = .ok (.iconst 0, 1) := by decide +kernel
theorem dX6_init_199 : decode cX6_init 199 = .ok (.istore_n 1, 1) := by decide +kernel
theorem dX6_init_200 : decode cX6_init 200 = .ok (.iload_n 1, 1) := by decide +kernel
theorem dX6_init_201 : decode cX6_init 201 = .ok (.bipush 10, 2) := by decide +kernel
theorem dX6_init_203 : decode cX6_init 203 = .ok (.if_icmp .ge 18, 3) := by decide +kernel
theorem dX6_init_206 : decode cX6_init 206 = .ok (.aload_n 0, 1) := by decide +kernel
theorem dX6_init_207 : decode cX6_init 207 = .ok (.getfield 20, 3) := by decide +kernel
theorem dX6_init_210 : decode cX6_init 210 = .ok (.iload_n 1, 1) := by decide +kernel
theorem dX6_init_211 : decode cX6_init 211 = .ok (.iload_n 1, 1) := by decide +kernel
theorem dX6_init_212 : decode cX6_init 212 = .ok (.iconst 4, 1) := by decide +kernel
theorem dX6_init_213 : decode cX6_init 213 = .ok (.irem, 1) := by decide +kernel
theorem dX6_init_214 : decode cX6_init 214 = .ok (.iastore, 1) := by decide +kernel
theorem dX6_init_215 : decode cX6_init 215 = .ok (.iinc 1 1, 3) := by decide +kernel
theorem dX6_init_218 : decode cX6_init 218 = .ok (.goto (-18), 3) := by decide +kernel
theorem dX6_init_221 : decode cX6_init 221 = .ok (.return_, 1) := by decide +kernel
theorem dX6_thrown_0 : decode cX6_thrown 0 = .ok (.aload_n 0, 1) := by decide +kernel
theorem dX6_thrown_1 : decode cX6_thrown 1 = .ok (.getfield 83, 3) := by decide +kernel
theorem dX6_thrown_4 : decode cX6_thrown 4 = .ok (.ireturn, 1) := by decide +kernel
theorem dX6_isFine_0 : decode cX6_isFine 0 = .ok (.aload_n 0, 1) := by decide +kernel
theorem dX6_isFine_1 : decode cX6_isFine 1 = .ok (.iload_n 1, 1) := by decide +kernel
theorem dX6_isFine_2 : decode cX6_isFine 2 = .ok (.putfield 83, 3) := by decide +kernel
theorem dX6_isFine_5 : decode cX6_isFine 5 = .ok (.iload_n 1, 1) := by decide +kernel
theorem dX6_isFine_6 : decode cX6_isFine 6 = .ok (.ifCond .ne 7, 3) := by decide +kernel
theorem dX6_isFine_9 : decode cX6_isFine 9 = .ok (.iconst 1, 1) := by decide +kernel
theorem dX6_isFine_10 : decode cX6_isFine 10 = .ok (.goto 4, 3) := by decide +kernel
theorem dX6_isFine_13 : decode cX6_isFine 13 = .ok (.iconst 0, 1) := by decide +kernel
theorem dX6_isFine_14 : decode cX6_isFine 14 = .ok (.ireturn, 1) := by decide +kernel
theorem dX6_isIn_0 : decode cX6_isIn 0 = .ok (.iload_n 0, 1) := by decide +kernel
theorem dX6_isIn_1 : decode cX6_isIn 1 = .ok (.iload_n 1, 1) := by decide +kernel
theorem dX6_isIn_2 : decode cX6_isIn 2 = .ok (.if_icmp .lt 12, 3) := by decide +kernel
theorem dX6_isIn_5 : decode cX6_isIn 5 = .ok (.iload_n 0, 1) := by decide +kernel
theorem dX6_isIn_6 : decode cX6_isIn 6 = .ok (.iload_n 2, 1) := by decide +kernel
theorem dX6_isIn_7 : decode cX6_isIn 7 = .ok (.if_icmp .gt 7, 3) := by decide +kernel
theorem dX6_isIn_10 : decode cX6_isIn 10 = .ok (.iconst 1, 1) := by decide +kernel
theorem dX6_isIn_11 : decode cX6_isIn 11 = .ok (.goto 4, 3) := by decide +kernel
theorem dX6_isIn_14 : decode cX6_isIn 14 = .ok (.iconst 0, 1) := by decide +kernel
theorem dX6_isIn_15 : decode cX6_isIn 15 = .ok (.ireturn, 1) := by decide +kernel
set_option maxRecDepth 20000 in
theorem ggX6_isLine_X6_isIn : GoodIn wsX6_isLine wsX6_isIn := goodIn_r _ [5] (by decide +kernel) (by decide +kernel)
set_option maxRecDepth 20000 in
theorem gX6_isLine_X6_isIn : GoodIn wsX6_isLine (va_wsS RX6 90 yX6_isIn wsX6_isIn) := goodIn_app (goodIn_of _ (by decide +kernel)) ggX6_isLine_X6_isIn
theorem dX6_isLine_0 : decode cX6_isLine 0 = .ok (.iload_n 1, 1) := by decide +kernel
theorem dX6_isLine_1 : decode cX6_isLine 1 = .ok (.iconst 0, 1) := by decide +kernel
theorem dX6_isLine_2 : decode cX6_isLine 2 = .ok (.aload_n 0, 1) := by decide +kernel
theorem dX6_isLine_3 : decode cX6_isLine 3 = .ok (.getfield 87, 3) := by decide +kernel
theorem dX6_isLine_6 : decode cX6_isLine 6 = .ok (.iconst 1, 1) := by decide +kernel
theorem dX6_isLine_7 : decode cX6_isLine 7 = .ok (.isub, 1) := by decide +kernel
theorem dX6_isLine_8 : decode cX6_isLine 8 = .ok (.invokestatic 90, 3) := by decide +kernel
theorem dX6_isLine_11 : decode cX6_isLine 11 = .ok (.ireturn, 1) := by decide +kernel
set_option maxRecDepth 20000 in
theorem ggX6_isArea_X6_isIn : GoodIn wsX6_isArea wsX6_isIn := goodIn_r _ [4] (by decide +kernel) (by decide +kernel)
set_option maxRecDepth 20000 in
theorem gX6_isArea_X6_isIn : GoodIn wsX6_isArea (va_wsS RX6 90 yX6_isIn wsX6_isIn) := goodIn_app (goodIn_of _ (by decide +kernel)) ggX6_isArea_X6_isIn
theorem dX6_isArea_0 : decode cX6_isArea 0 = .ok (.iload_n 0, 1) := by decide +kernel
theorem dX6_isArea_1 : decode cX6_isArea 1 = .ok (.iconst 0, 1) := by decide +kernel
theorem dX6_isArea_2 : decode cX6_isArea 2 = .ok (.iconst 3, 1) := by decide +kernel
theorem dX6_isArea_3 : decode cX6_isArea 3 = .ok (.invokestatic 90, 3) := by decide +kernel
theorem dX6_isArea_6 : decode cX6_isArea 6 = .ok (.ireturn, 1) := by decide +kernel
set_option maxRecDepth 20000 in
theorem ggX6_isChannel_X6_isIn : GoodIn wsX6_isChannel wsX6_isIn := goodIn_r _ [4] (by decide +kernel) (by decide +kernel)
set_option maxRecDepth 20000 in
theorem gX6_isChannel_X6_isIn : GoodIn wsX6_isChannel (va_wsS RX6 90 yX6_isIn wsX6_isIn) := goodIn_app (goodIn_of _ (by decide +kernel)) ggX6_isChannel_X6_isIn
theorem dX6_isChannel_0 : decode cX6_isChannel 0 = .ok (.iload_n 0, 1) := by decide +kernel
theorem dX6_isChannel_1 : decode cX6_isChannel 1 = .ok (.iconst 0, 1) := by decide +kernel
theorem dX6_isChannel_2 : decode cX6_isChannel 2 = .ok (.bipush 9, 2) := by decide +kernel
theorem dX6_isChannel_4 : decode cX6_isChannel 4 = .ok (.invokestatic 90, 3) := by decide +kernel
theorem dX6_isChannel_7 : decode cX6_isChannel 7 = .ok (.ireturn, 1) := by decide +kernel
set_option maxRecDepth 20000 in
theorem ggX6_isStage_X6_isIn : GoodIn wsX6_isStage wsX6_isIn := goodIn_r _ [4] (by decide +kernel) (by decide +kernel)
set_option maxRecDepth 20000 in
theorem gX6_isStage_X6_isIn : GoodIn wsX6_isStage (va_wsS RX6 90 yX6_isIn wsX6_isIn) := goodIn_app (goodIn_of _ (by decide +kernel)) ggX6_isStage_X6_isIn
theorem dX6_isStage_0 : decode cX6_isStage 0 = .ok (.iload_n 0, 1) := by decide +kernel
theorem dX6_isStage_1 : decode cX6_isStage 1 = .ok (.iconst 0, 1) := by decide +kernel
theorem dX6_isStage_2 : decode cX6_isStage 2 = .ok (.iconst 3, 1) := by decide +kernel
theorem dX6_isStage_3 : decode cX6_isStage 3 = .ok (.invokestatic 90, 3) := by decide +kernel
theorem dX6_isStage_6 : decode cX6_isStage 6 = .ok (.ireturn, 1) := by decide +kernel
set_option maxRecDepth 20000 in
theorem ggX6_isTime_X6_isIn : GoodIn wsX6_isTime wsX6_isIn := goodIn_r _ [4] (by decide +kernel) (by decide +kernel)
set_option maxRecDepth 20000 in
theorem gX6_isTime_X6_isIn : GoodIn wsX6_isTime (va_wsS RX6 90 yX6_isIn wsX6_isIn) := goodIn_app (goodIn_of _ (by decide +kernel)) ggX6_isTime_X6_isIn
theorem dX6_isTime_0 : decode cX6_isTime 0 = .ok (.iload_n 0, 1) := by decide +kernel
theorem dX6_isTime_1 : decode cX6_isTime 1 = .ok (.iconst 0, 1) := by decide +kernel
theorem dX6_isTime_2 : decode cX6_isTime 2 = .ok (.sipush 2000, 3) := by decide +kernel
theorem dX6_isTime_5 : decode cX6_isTime 5 = .ok (.invokestatic 90, 3) := by decide +kernel
theorem dX6_isTime_8 : decode cX6_isTime 8 = .ok (.ireturn, 1) := by decide +kernel
set_option maxRecDepth 20000 in
theorem ggX6_addLine_X6_isIn : GoodIn wsX6_addLine wsX6_isIn := goodIn_r _ [6] (by decide +kernel) (by decide +kernel)
set_option maxRecDepth 20000 in
theorem gX6_addLine_X6_isIn : GoodIn wsX6_addLine (va_wsS RX6 90 yX6_isIn wsX6_isIn) := goodIn_app (goodIn_of _ (by decide +kernel)) ggX6_addLine_X6_isIn
set_option maxRecDepth 20000 in
theorem ggX6_addLine_X6_isFine : GoodIn wsX6_addLine wsX6_isFine := goodIn_r _ [10, 11, 12, 13, 14, 15, 16, 17, 18, 19, 20, 21, 22, 23, 24, 25, 26, 27, 28, 29, 30, 31, 32, 33, 34, 35, 36, 37, 38, 39, 40, 41] (by decide +kernel) (by decide +kernel)
set_option maxRecDepth 20000 in
theorem gX6_addLine_X6_isFine : GoodIn wsX6_addLine (wsV RX6 94 RX6 yX6_isFine wsX6_isFine) := goodIn_app (goodIn_of _ (by decide +kernel)) ggX6_addLine_X6_isFine
theorem dX6_addLine_0 : decode cX6_addLine 0 = .ok (.aload_n 0, 1) := by decide +kernel
theorem dX6_addLine_1 : decode cX6_addLine 1 = .ok (.iload_n 1, 1) := by decide +kernel
theorem dX6_addLine_2 : decode cX6_addLine 2 = .ok (.iconst 1, 1) := by decide +kernel
theorem dX6_addLine_3 : decode cX6_addLine 3 = .ok (.bipush 30, 2) := by decide +kernel
theorem dX6_addLine_5 : decode cX6_addLine 5 = .ok (.invokestatic 90, 3) := by decide +kernel
theorem dX6_addLine_8 : decode cX6_addLine 8 = .ok (.ifCond .ne 7, 3) := by decide +kernel
theorem dX6_addLine_11 : decode cX6_addLine 11 = .ok (.iconst 1, 1) := by decide +kernel
theorem dX6_addLine_12 : decode cX6_addLine 12 = .ok (.goto 17, 3) := by decide +kernel
theorem dX6_addLine_15 : decode cX6_addLine 15 = .ok (.aload_n 0, 1) := by decide +kernel
theorem dX6_addLine_16 : decode cX6_addLine 16 = .ok (.getfield 87, 3) := by decide +kernel
theorem dX6_addLine_19 : decode cX6_addLine 19 = .ok (.bipush 30, 2) := by decide +kernel
theorem dX6_addLine_21 : decode cX6_addLine 21 = .ok (.if_icmp .ne 7, 3) := by decide +kernel
theorem dX6_addLine_24 : decode cX6_addLine 24 = .ok (.iconst 2, 1) := by decide +kernel
theorem dX6_addLine_25 : decode cX6_addLine 25 = .ok (.goto 4, 3) := by decide +kernel
theorem dX6_addLine_28 : decode cX6_addLine 28 = .ok (.iconst 0, 1) := by decide +kernel
theorem dX6_addLine_29 : decode cX6_addLine 29 = .ok (.invokevirtual 94, 3) := by decide +kernel
theorem dX6_addLine_32 : decode cX6_addLine 32 = .ok (.ifCond .ne 5, 3) := by decide +kernel
theorem dX6_addLine_35 : decode cX6_addLine 35 = .ok (.iconst 0, 1) := by decide +kernel
theorem dX6_addLine_36 : decode cX6_addLine 36 = .ok (.ireturn, 1) := by decide +kernel
theorem dX6_addLine_37 : decode cX6_addLine 37 = .ok (.aload_n 0, 1) := by decide +kernel
theorem dX6_addLine_38 : decode cX6_addLine 38 = .ok (.getfield 7, 3) := by decide +kernel
theorem dX6_addLine_41 : decode cX6_addLine 41 = .ok (.aload_n 0, 1) := by decide +kernel
theorem dX6_addLine_42 : decode cX6_addLine 42 = .ok (.getfield 87, 3) := by decide +kernel
theorem dX6_addLine_45 : decode cX6_addLine 45 = .ok (.iload_n 1, 1) := by decide +kernel
theorem dX6_addLine_46 : decode cX6_addLine 46 = .ok (.iastore, 1) := by decide +kernel
theorem dX6_addLine_47 : decode cX6_addLine 47 = .ok (.aload_n 0, 1) := by decide +kernel
theorem dX6_addLine_48 : decode cX6_addLine 48 = .ok (.dup, 1) := by decide +kernel
theorem dX6_addLine_49 : decode cX6_addLine 49 = .ok (.getfield 87, 3) := by decide +kernel
theorem dX6_addLine_52 : decode cX6_addLine 52 = .ok (.iconst 1, 1) := by decide +kernel
theorem dX6_addLine_53 : decode cX6_addLine 53 = .ok (.iadd, 1) := by decide +kernel
theorem dX6_addLine_54 : decode cX6_addLine 54 = .ok (.putfield 87, 3) := by decide +kernel
theorem dX6_addLine_57 : decode cX6_addLine 57 = .ok (.aload_n 0, 1) := by decide +kernel
theorem dX6_addLine_58 : decode cX6_addLine 58 = .ok (.getfield 87, 3) := by decide +kernel
theorem dX6_addLine_61 : decode cX6_addLine 61 = .ok (.iconst 1, 1) := by decide +kernel
theorem dX6_addLine_62 : decode cX6_addLine 62 = .ok (.isub, 1) := by decide +kernel
theorem dX6_addLine_63 : decode cX6_addLine 63 = .ok (.ireturn, 1) := by decide +kernel
set_option maxRecDepth 20000 in
theorem ggX6_need_X6_isLine : GoodIn wsX6_need wsX6_isLine := goodIn_r _ [6, 7, 8, 9, 5, 10, 19, 20, 21, 22, 23, 24, 25, 26, 27, 28, 29, 30, 31, 32, 33, 34, 35, 36, 37, 38, 39, 40, 41, 42, 43, 44, 45, 46, 47, 48] (by decide +kernel) (by decide +kernel)
set_option maxRecDepth 20000 in
theorem gX6_need_X6_isLine : GoodIn wsX6_need (wsV RX6 98 RX6 yX6_isLine wsX6_isLine) := goodIn_app (goodIn_of _ (by decide +kernel)) ggX6_need_X6_isLine
set_option maxRecDepth 20000 in
theorem ggX6_need_X6_isArea : GoodIn wsX6_need wsX6_isArea := goodIn_r _ [13, 8, 9, 5, 10] (by decide +kernel) (by decide +kernel)
set_option maxRecDepth 20000 in
theorem gX6_need_X6_isArea : GoodIn wsX6_need (va_wsS RX6 101 yX6_isArea wsX6_isArea) := goodIn_app (goodIn_of _ (by decide +kernel)) ggX6_need_X6_isArea
set_option maxRecDepth 20000 in
theorem ggX6_need_X6_isIn : GoodIn wsX6_need wsX6_isIn := goodIn_r _ [10] (by decide +kernel) (by decide +kernel)
set_option maxRecDepth 20000 in
theorem gX6_need_X6_isIn : GoodIn wsX6_need (va_wsS RX6 90 yX6_isIn wsX6_isIn) := goodIn_app (goodIn_of _ (by decide +kernel)) ggX6_need_X6_isIn
set_option maxRecDepth 20000 in
theorem ggX6_need_X6_isFine : GoodIn wsX6_need wsX6_isFine := goodIn_r _ [17, 18, 19, 20, 21, 22, 23, 24, 25, 26, 27, 28, 29, 30, 31, 32, 33, 34, 35, 36, 37, 38, 39, 40, 41, 42, 43, 44, 45, 46, 47, 48] (by decide +kernel) (by decide +kernel)
set_option maxRecDepth 20000 in
theorem gX6_need_X6_isFine : GoodIn wsX6_need (wsV RX6 94 RX6 yX6_isFine wsX6_isFine) := goodIn_app (goodIn_of _ (by decide +kernel)) ggX6_need_X6_isFine
theorem dX6_need_0 : decode cX6_need 0 = .ok (.aload_n 0, 1) := by decide +kernel
theorem dX6_need_1 : decode cX6_need 1 = .ok (.iload_n 1, 1) := by decide +kernel
theorem dX6_need_2 : decode cX6_need 2 = .ok (.invokevirtual 98, 3) := by decide +kernel
theorem dX6_need_5 : decode cX6_need 5 = .ok (.ifCond .eq 14, 3) := by decide +kernel
theorem dX6_need_8 : decode cX6_need 8 = .ok (.iload_n 2, 1) := by decide +kernel
theorem dX6_need_9 : decode cX6_need 9 = .ok (.invokestatic 101, 3) := by decide +kernel
theorem dX6_need_12 : decode cX6_need 12 = .ok (.ifCond .eq 7, 3) := by decide +kernel
theorem dX6_need_15 : decode cX6_need 15 = .ok (.iconst 1, 1) := by decide +kernel
theorem dX6_need_16 : decode cX6_need 16 = .ok (.goto 4, 3) := by decide +kernel
theorem dX6_need_19 : decode cX6_need 19 = .ok (.iconst 0, 1) := by decide +kernel
theorem dX6_need_20 : decode cX6_need 20 = .ok (.istore 4, 2) := by decide +kernel
theorem dX6_need_22 : decode cX6_need 22 = .ok (.aload_n 0, 1) := by decide +kernel
theorem dX6_need_23 : decode cX6_need 23 = .ok (.iload 4, 2) := by decide +kernel
theorem dX6_need_25 : decode cX6_need 25 = .ok (.ifCond .ne 7, 3) := by decide +kernel
theorem dX6_need_28 : decode cX6_need 28 = .ok (.iconst 1, 1) := by decide +kernel
theorem dX6_need_29 : decode cX6_need 29 = .ok (.goto 18, 3) := by decide +kernel
theorem dX6_need_32 : decode cX6_need 32 = .ok (.iload_n 3, 1) := by decide +kernel
theorem dX6_need_33 : decode cX6_need 33 = .ok (.iconst 0, 1) := by decide +kernel
theorem dX6_need_34 : decode cX6_need 34 = .ok (.bipush 100, 2) := by decide +kernel
theorem dX6_need_36 : decode cX6_need 36 = .ok (.invokestatic 90, 3) := by decide +kernel
theorem dX6_need_39 : decode cX6_need 39 = .ok (.ifCond .ne 7, 3) := by decide +kernel
theorem dX6_need_42 : decode cX6_need 42 = .ok (.iconst 2, 1) := by decide +kernel
theorem dX6_need_43 : decode cX6_need 43 = .ok (.goto 4, 3) := by decide +kernel
theorem dX6_need_46 : decode cX6_need 46 = .ok (.iconst 0, 1) := by decide +kernel
theorem dX6_need_47 : decode cX6_need 47 = .ok (.invokevirtual 94, 3) := by decide +kernel
theorem dX6_need_50 : decode cX6_need 50 = .ok (.ifCond .ne 5, 3) := by decide +kernel
theorem dX6_need_53 : decode cX6_need 53 = .ok (.iconst 0, 1) := by decide +kernel
theorem dX6_need_54 : decode cX6_need 54 = .ok (.ireturn, 1) := by decide +kernel
theorem dX6_need_55 : decode cX6_need 55 = .ok (.aload_n 0, 1) := by decide +kernel
theorem dX6_need_56 : decode cX6_need 56 = .ok (.getfield 17, 3) := by decide +kernel
theorem dX6_need_59 : decode cX6_need 59 = .ok (.iconst 4, 1) := by decide +kernel
theorem dX6_need_60 : decode cX6_need 60 = .ok (.iload_n 1, 1) := by decide +kernel
theorem dX6_need_61 : decode cX6_need 61 = .ok (.imul, 1) := by decide +kernel
theorem dX6_need_62 : decode cX6_need 62 = .ok (.iload_n 2, 1) := by decide +kernel
theorem dX6_need_63 : decode cX6_need 63 = .ok (.iadd, 1) := by decide +kernel
theorem dX6_need_64 : decode cX6_need 64 = .ok (.iaload, 1) := by decide +kernel
theorem dX6_need_65 : decode cX6_need 65 = .ok (.istore 5, 2) := by decide +kernel
theorem dX6_need_67 : decode cX6_need 67 = .ok (.aload_n 0, 1) := by decide +kernel
theorem dX6_need_68 : decode cX6_need 68 = .ok (.getfield 17, 3) := by decide +kernel
theorem dX6_need_71 : decode cX6_need 71 = .ok (.iconst 4, 1) := by decide +kernel
theorem dX6_need_72 : decode cX6_need 72 = .ok (.iload_n 1, 1) := by decide +kernel
theorem dX6_need_73 : decode cX6_need 73 = .ok (.imul, 1) := by decide +kernel
theorem dX6_need_74 : decode cX6_need 74 = .ok (.iload_n 2, 1) := by decide +kernel
theorem dX6_need_75 : decode cX6_need 75 = .ok (.iadd, 1) := by decide +kernel
theorem dX6_need_76 : decode cX6_need 76 = .ok (.iload_n 3, 1) := by decide +kernel
theorem dX6_need_77 : decode cX6_need 77 = .ok (.iastore, 1) := by decide +kernel
theorem dX6_need_78 : decode cX6_need 78 = .ok (.iload 5, 2) := by decide +kernel
theorem dX6_need_80 : decode cX6_need 80 = .ok (.ireturn, 1) := by decide +kernel
theorem dX6_ahead_0 : decode cX6_ahead 0 = .ok (.iconst 0, 1) := by decide +kernel
theorem dX6_ahead_1 : decode cX6_ahead 1 = .ok (.istore_n 2, 1) := by decide +kernel
theorem dX6_ahead_2 : decode cX6_ahead 2 = .ok (.iconst 0, 1) := by decide +kernel
theorem dX6_ahead_3 : decode cX6_ahead 3 = .ok (.istore_n 3, 1) := by decide +kernel
theorem dX6_ahead_4 : decode cX6_ahead 4 = .ok (.iload_n 3, 1) := by decide +kernel
theorem dX6_ahead_5 : decode cX6_ahead 5 = .ok (.iload_n 1, 1) := by decide +kernel
theorem dX6_ahead_6 : decode cX6_ahead 6 = .ok (.if_icmp .ge 31, 3) := by decide +kernel
theorem dX6_ahead_9 : decode cX6_ahead 9 = .ok (.iload_n 2, 1) := by decide +kernel
theorem dX6_ahead_10 : decode cX6_ahead 10 = .ok (.aload_n 0, 1) := by decide +kernel
theorem dX6_ahead_11 : decode cX6_ahead 11 = .ok (.getfield 13, 3) := by decide +kernel
theorem dX6_ahead_14 : decode cX6_ahead 14 = .ok (.iload_n 3, 1) := by decide +kernel
theorem dX6_ahead_15 : decode cX6_ahead 15 = .ok (.baload, 1) := by decide +kernel
theorem dX6_ahead_16 : decode cX6_ahead 16 = .ok (.ifCond .eq 7, 3) := by decide +kernel
theorem dX6_ahead_19 : decode cX6_ahead 19 = .ok (.iconst 0, 1) := by decide +kernel
theorem dX6_ahead_20 : decode cX6_ahead 20 = .ok (.goto 9, 3) := by decide +kernel
theorem dX6_ahead_23 : decode cX6_ahead 23 = .ok (.aload_n 0, 1) := by decide +kernel
theorem dX6_ahead_24 : decode cX6_ahead 24 = .ok (.getfield 7, 3) := by decide +kernel
theorem dX6_ahead_27 : decode cX6_ahead 27 = .ok (.iload_n 3, 1) := by decide +kernel
theorem dX6_ahead_28 : decode cX6_ahead 28 = .ok (.iaload, 1) := by decide +kernel
theorem dX6_ahead_29 : decode cX6_ahead 29 = .ok (.iadd, 1) := by decide +kernel
theorem dX6_ahead_30 : decode cX6_ahead 30 = .ok (.istore_n 2, 1) := by decide +kernel
theorem dX6_ahead_31 : decode cX6_ahead 31 = .ok (.iinc 3 1, 3) := by decide +kernel
theorem dX6_ahead_34 : decode cX6_ahead 34 = .ok (.goto (-30), 3) := by decide +kernel
theorem dX6_ahead_37 : decode cX6_ahead 37 = .ok (.iload_n 2, 1) := by decide +kernel
theorem dX6_ahead_38 : decode cX6_ahead 38 = .ok (.ireturn, 1) := by decide +kernel
set_option maxRecDepth 20000 in
theorem ggX6_cut_X6_isLine : GoodIn wsX6_cut wsX6_isLine := goodIn_r _ [7, 2, 8, 9, 6, 10, 21, 22, 23, 24, 25, 26, 27, 28, 29, 30, 31, 32, 33, 34, 35, 36, 37, 38, 39, 40, 41, 42, 43, 44, 45, 46, 47, 48, 49, 50] (by decide +kernel) (by decide +kernel)
set_option maxRecDepth 20000 in
theorem gX6_cut_X6_isLine : GoodIn wsX6_cut (wsV RX6 98 RX6 yX6_isLine wsX6_isLine) := goodIn_app (goodIn_of _ (by decide +kernel)) ggX6_cut_X6_isLine
set_option maxRecDepth 20000 in
theorem ggX6_cut_X6_isFine : GoodIn wsX6_cut wsX6_isFine := goodIn_r _ [14, 15, 21, 22, 23, 24, 25, 26, 27, 28, 29, 30, 31, 32, 33, 34, 35, 36, 37, 38, 39, 40, 41, 42, 43, 44, 45, 46, 47, 48, 49, 50] (by decide +kernel) (by decide +kernel)
set_option maxRecDepth 20000 in
theorem gX6_cut_X6_isFine : GoodIn wsX6_cut (wsV RX6 94 RX6 yX6_isFine wsX6_isFine) := goodIn_app (goodIn_of _ (by decide +kernel)) ggX6_cut_X6_isFine
set_option maxRecDepth 20000 in
theorem ggX6_cut_X6_ahead : GoodIn wsX6_cut wsX6_ahead := goodIn_r _ [19, 1, 20, 21, 22, 23, 24, 25, 26, 27, 28, 29, 30, 31, 32, 33, 34, 35, 36, 37, 38, 39, 40, 41, 42, 43, 44, 45, 46, 47, 48, 49, 50] (by decide +kernel) (by decide +kernel)
set_option maxRecDepth 20000 in
theorem gX6_cut_X6_ahead : GoodIn wsX6_cut (wsV RX6 104 RX6 yX6_ahead wsX6_ahead) := goodIn_app (goodIn_of _ (by decide +kernel)) ggX6_cut_X6_ahead
theorem dX6_cut_0 : decode cX6_cut 0 = .ok (.aload_n 0, 1) := by decide +kernel
theorem dX6_cut_1 : decode cX6_cut 1 = .ok (.aload_n 0, 1) := by decide +kernel
theorem dX6_cut_2 : decode cX6_cut 2 = .ok (.iload_n 1, 1) := by decide +kernel
theorem dX6_cut_3 : decode cX6_cut 3 = .ok (.invokevirtual 98, 3) := by decide +kernel
theorem dX6_cut_6 : decode cX6_cut 6 = .ok (.ifCond .eq 7, 3) := by decide +kernel
theorem dX6_cut_9 : decode cX6_cut 9 = .ok (.iconst 0, 1) := by decide +kernel
theorem dX6_cut_10 : decode cX6_cut 10 = .ok (.goto 4, 3) := by decide +kernel
theorem dX6_cut_13 : decode cX6_cut 13 = .ok (.iconst 1, 1) := by decide +kernel
theorem dX6_cut_14 : decode cX6_cut 14 = .ok (.invokevirtual 94, 3) := by decide +kernel
theorem dX6_cut_17 : decode cX6_cut 17 = .ok (.ifCond .ne 5, 3) := by decide +kernel
theorem dX6_cut_20 : decode cX6_cut 20 = .ok (.iconst 0, 1) := by decide +kernel
theorem dX6_cut_21 : decode cX6_cut 21 = .ok (.ireturn, 1) := by decide +kernel
theorem dX6_cut_22 : decode cX6_cut 22 = .ok (.aload_n 0, 1) := by decide +kernel
theorem dX6_cut_23 : decode cX6_cut 23 = .ok (.getfield 13, 3) := by decide +kernel
theorem dX6_cut_26 : decode cX6_cut 26 = .ok (.iload_n 1, 1) := by decide +kernel
theorem dX6_cut_27 : decode cX6_cut 27 = .ok (.iload_n 2, 1) := by decide +kernel
theorem dX6_cut_28 : decode cX6_cut 28 = .ok (.bastore, 1) := by decide +kernel
theorem dX6_cut_29 : decode cX6_cut 29 = .ok (.aload_n 0, 1) := by decide +kernel
theorem dX6_cut_30 : decode cX6_cut 30 = .ok (.aload_n 0, 1) := by decide +kernel
theorem dX6_cut_31 : decode cX6_cut 31 = .ok (.getfield 87, 3) := by decide +kernel
theorem dX6_cut_34 : decode cX6_cut 34 = .ok (.invokevirtual 104, 3) := by decide +kernel
theorem dX6_cut_37 : decode cX6_cut 37 = .ok (.ireturn, 1) := by decide +kernel
theorem dX6_lines_0 : decode cX6_lines 0 = .ok (.aload_n 0, 1) := by decide +kernel
theorem dX6_lines_1 : decode cX6_lines 1 = .ok (.iconst 0, 1) := by decide +kernel
theorem dX6_lines_2 : decode cX6_lines 2 = .ok (.putfield 83, 3) := by decide +kernel
theorem dX6_lines_5 : decode cX6_lines 5 = .ok (.aload_n 0, 1) := by decide +kernel
theorem dX6_lines_6 : decode cX6_lines 6 = .ok (.getfield 87, 3) := by decide +kernel
theorem dX6_lines_9 : decode cX6_lines 9 = .ok (.ireturn, 1) := by decide +kernel
set_option maxRecDepth 20000 in
theorem ggX6_startOf_X6_isLine : GoodIn wsX6_startOf wsX6_isLine := goodIn_r _ [6, 7, 8, 9, 5, 10, 21, 22, 23, 24, 25, 26, 27, 28, 29, 30, 31, 32, 33, 34, 35, 36, 37, 38, 39, 40, 41, 42, 43, 44, 45, 46, 47, 48, 49, 50] (by decide +kernel) (by decide +kernel)
set_option maxRecDepth 20000 in
theorem gX6_startOf_X6_isLine : GoodIn wsX6_startOf (wsV RX6 98 RX6 yX6_isLine wsX6_isLine) := goodIn_app (goodIn_of _ (by decide +kernel)) ggX6_startOf_X6_isLine
set_option maxRecDepth 20000 in
theorem ggX6_startOf_X6_isFine : GoodIn wsX6_startOf wsX6_isFine := goodIn_r _ [14, 15, 21, 22, 23, 24, 25, 26, 27, 28, 29, 30, 31, 32, 33, 34, 35, 36, 37, 38, 39, 40, 41, 42, 43, 44, 45, 46, 47, 48, 49, 50] (by decide +kernel) (by decide +kernel)
set_option maxRecDepth 20000 in
theorem gX6_startOf_X6_isFine : GoodIn wsX6_startOf (wsV RX6 94 RX6 yX6_isFine wsX6_isFine) := goodIn_app (goodIn_of _ (by decide +kernel)) ggX6_startOf_X6_isFine
set_option maxRecDepth 20000 in
theorem ggX6_startOf_X6_ahead : GoodIn wsX6_startOf wsX6_ahead := goodIn_r _ [19, 1, 20, 21, 22, 23, 24, 25, 26, 27, 28, 29, 30, 31, 32, 33, 34, 35, 36, 37, 38, 39, 40, 41, 42, 43, 44, 45, 46, 47, 48, 49, 50] (by decide +kernel) (by decide +kernel)
set_option maxRecDepth 20000 in
theorem gX6_startOf_X6_ahead : GoodIn wsX6_startOf (wsV RX6 104 RX6 yX6_ahead wsX6_ahead) := goodIn_app (goodIn_of _ (by decide +kernel)) ggX6_startOf_X6_ahead
theorem dX6_startOf_0 : decode cX6_startOf 0 = .ok (.aload_n 0, 1) := by decide +kernel
theorem dX6_startOf_1 : decode cX6_startOf 1 = .ok (.aload_n 0, 1) := by decide +kernel
theorem dX6_startOf_2 : decode cX6_startOf 2 = .ok (.iload_n 1, 1) := by decide +kernel
theorem dX6_startOf_3 : decode cX6_startOf 3 = .ok (.invokevirtual 98, 3) := by decide +kernel
theorem dX6_startOf_6 : decode cX6_startOf 6 = .ok (.ifCond .eq 7, 3) := by decide +kernel
theorem dX6_startOf_9 : decode cX6_startOf 9 = .ok (.iconst 0, 1) := by decide +kernel
theorem dX6_startOf_10 : decode cX6_startOf 10 = .ok (.goto 4, 3) := by decide +kernel
theorem dX6_startOf_13 : decode cX6_startOf 13 = .ok (.iconst 1, 1) := by decide +kernel
theorem dX6_startOf_14 : decode cX6_startOf 14 = .ok (.invokevirtual 94, 3) := by decide +kernel
theorem dX6_startOf_17 : decode cX6_startOf 17 = .ok (.ifCond .ne 5, 3) := by decide +kernel
theorem dX6_startOf_20 : decode cX6_startOf 20 = .ok (.iconst 0, 1) := by decide +kernel
theorem dX6_startOf_21 : decode cX6_startOf 21 = .ok (.ireturn, 1) := by decide +kernel
theorem dX6_startOf_22 : decode cX6_startOf 22 = .ok (.aload_n 0, 1) := by decide +kernel
theorem dX6_startOf_23 : decode cX6_startOf 23 = .ok (.getfield 13, 3) := by decide +kernel
theorem dX6_startOf_26 : decode cX6_startOf 26 = .ok (.iload_n 1, 1) := by decide +kernel
theorem dX6_startOf_27 : decode cX6_startOf 27 = .ok (.baload, 1) := by decide +kernel
theorem dX6_startOf_28 : decode cX6_startOf 28 = .ok (.ifCond .eq 7, 3) := by decide +kernel
theorem dX6_startOf_31 : decode cX6_startOf 31 = .ok (.iconst (-1), 1) := by decide +kernel
theorem dX6_startOf_32 : decode cX6_startOf 32 = .ok (.goto 8, 3) := by decide +kernel
theorem dX6_startOf_35 : decode cX6_startOf 35 = .ok (.aload_n 0, 1) := by decide +kernel
theorem dX6_startOf_36 : decode cX6_startOf 36 = .ok (.iload_n 1, 1) := by decide +kernel
theorem dX6_startOf_37 : decode cX6_startOf 37 = .ok (.invokevirtual 104, 3) := by decide +kernel
theorem dX6_startOf_40 : decode cX6_startOf 40 = .ok (.ireturn, 1) := by decide +kernel
set_option maxRecDepth 20000 in
theorem ggX6_length_X6_ahead : GoodIn wsX6_length wsX6_ahead := goodIn_r _ [7, 8, 9, 10, 11, 12, 13, 14, 15, 16, 17, 18, 19, 20, 21, 22, 23, 24, 25, 26, 27, 28, 29, 30, 31, 32, 33, 34, 35, 36, 37, 38, 39] (by decide +kernel) (by decide +kernel)
set_option maxRecDepth 20000 in
theorem gX6_length_X6_ahead : GoodIn wsX6_length (wsV RX6 104 RX6 yX6_ahead wsX6_ahead) := goodIn_app (goodIn_of _ (by decide +kernel)) ggX6_length_X6_ahead
theorem dX6_length_0 : decode cX6_length 0 = .ok (.aload_n 0, 1) := by decide +kernel
theorem dX6_length_1 : decode cX6_length 1 = .ok (.iconst 0, 1) := by decide +kernel
theorem dX6_length_2 : decode cX6_length 2 = .ok (.putfield 83, 3) := by decide +kernel
theorem dX6_length_5 : decode cX6_length 5 = .ok (.aload_n 0, 1) := by decide +kernel
theorem dX6_length_6 : decode cX6_length 6 = .ok (.aload_n 0, 1) := by decide +kernel
theorem dX6_length_7 : decode cX6_length 7 = .ok (.getfield 87, 3) := by decide +kernel
theorem dX6_length_10 : decode cX6_length 10 = .ok (.invokevirtual 104, 3) := by decide +kernel
theorem dX6_length_13 : decode cX6_length 13 = .ok (.ireturn, 1) := by decide +kernel
set_option maxRecDepth 20000 in
theorem ggX6_setChannel_X6_isChannel : GoodIn wsX6_setChannel wsX6_isChannel := goodIn_r _ [6, 7, 8, 5, 9] (by decide +kernel) (by decide +kernel)
set_option maxRecDepth 20000 in
theorem gX6_setChannel_X6_isChannel : GoodIn wsX6_setChannel (va_wsS RX6 108 yX6_isChannel wsX6_isChannel) := goodIn_app (goodIn_of _ (by decide +kernel)) ggX6_setChannel_X6_isChannel
set_option maxRecDepth 20000 in
theorem ggX6_setChannel_X6_isArea : GoodIn wsX6_setChannel wsX6_isArea := goodIn_r _ [12, 7, 8, 5, 9] (by decide +kernel) (by decide +kernel)
set_option maxRecDepth 20000 in
theorem gX6_setChannel_X6_isArea : GoodIn wsX6_setChannel (va_wsS RX6 101 yX6_isArea wsX6_isArea) := goodIn_app (goodIn_of _ (by decide +kernel)) ggX6_setChannel_X6_isArea
set_option maxRecDepth 20000 in
theorem ggX6_setChannel_X6_isIn : GoodIn wsX6_setChannel wsX6_isIn := goodIn_r _ [9] (by decide +kernel) (by decide +kernel)
set_option maxRecDepth 20000 in
theorem gX6_setChannel_X6_isIn : GoodIn wsX6_setChannel (va_wsS RX6 90 yX6_isIn wsX6_isIn) := goodIn_app (goodIn_of _ (by decide +kernel)) ggX6_setChannel_X6_isIn
set_option maxRecDepth 20000 in
theorem ggX6_setChannel_X6_isFine : GoodIn wsX6_setChannel wsX6_isFine := goodIn_r _ [16, 17, 18, 19, 20, 21, 22, 23, 24, 25, 26, 27, 28, 29, 30, 31, 32, 33, 34, 35, 36, 37, 38, 39, 40, 41, 42, 43, 44, 45, 46, 47] (by decide +kernel) (by decide +kernel)
set_option maxRecDepth 20000 in
theorem gX6_setChannel_X6_isFine : GoodIn wsX6_setChannel (wsV RX6 94 RX6 yX6_isFine wsX6_isFine) := goodIn_app (goodIn_of _ (by decide +kernel)) ggX6_setChannel_X6_isFine
theorem dX6_setChannel_0 : decode cX6_setChannel 0 = .ok (.iload_n 1, 1) := by decide +kernel
theorem dX6_setChannel_1 : decode cX6_setChannel 1 = .ok (.invokestatic 108, 3) := by decide +kernel
theorem dX6_setChannel_4 : decode cX6_setChannel 4 = .ok (.ifCond .eq 14, 3) := by decide +kernel
theorem dX6_setChannel_7 : decode cX6_setChannel 7 = .ok (.iload_n 2, 1) := by decide +kernel
theorem dX6_setChannel_8 : decode cX6_setChannel 8 = .ok (.invokestatic 101, 3) := by decide +kernel
theorem dX6_setChannel_11 : decode cX6_setChannel 11 = .ok (.ifCond .eq 7, 3) := by decide +kernel
theorem dX6_setChannel_14 : decode cX6_setChannel 14 = .ok (.iconst 1, 1) := by decide +kernel
theorem dX6_setChannel_15 : decode cX6_setChannel 15 = .ok (.goto 4, 3) := by decide +kernel
theorem dX6_setChannel_18 : decode cX6_setChannel 18 = .ok (.iconst 0, 1) := by decide +kernel
theorem dX6_setChannel_19 : decode cX6_setChannel 19 = .ok (.istore 4, 2) := by decide +kernel
theorem dX6_setChannel_21 : decode cX6_setChannel 21 = .ok (.aload_n 0, 1) := by decide +kernel
theorem dX6_setChannel_22 : decode cX6_setChannel 22 = .ok (.iload 4, 2) := by decide +kernel
theorem dX6_setChannel_24 : decode cX6_setChannel 24 = .ok (.ifCond .ne 7, 3) := by decide +kernel
theorem dX6_setChannel_27 : decode cX6_setChannel 27 = .ok (.iconst 1, 1) := by decide +kernel
theorem dX6_setChannel_28 : decode cX6_setChannel 28 = .ok (.goto 17, 3) := by decide +kernel
theorem dX6_setChannel_31 : decode cX6_setChannel 31 = .ok (.iload_n 3, 1) := by decide +kernel
theorem dX6_setChannel_32 : decode cX6_setChannel 32 = .ok (.iconst 0, 1) := by decide +kernel
theorem dX6_setChannel_33 : decode cX6_setChannel 33 = .ok (.iconst 2, 1) := by decide +kernel
theorem dX6_setChannel_34 : decode cX6_setChannel 34 = .ok (.invokestatic 90, 3) := by decide +kernel
theorem dX6_setChannel_37 : decode cX6_setChannel 37 = .ok (.ifCond .ne 7, 3) := by decide +kernel
theorem dX6_setChannel_40 : decode cX6_setChannel 40 = .ok (.iconst 2, 1) := by decide +kernel
theorem dX6_setChannel_41 : decode cX6_setChannel 41 = .ok (.goto 4, 3) := by decide +kernel
theorem dX6_setChannel_44 : decode cX6_setChannel 44 = .ok (.iconst 0, 1) := by decide +kernel
theorem dX6_setChannel_45 : decode cX6_setChannel 45 = .ok (.invokevirtual 94, 3) := by decide +kernel
theorem dX6_setChannel_48 : decode cX6_setChannel 48 = .ok (.ifCond .ne 5, 3) := by decide +kernel
theorem dX6_setChannel_51 : decode cX6_setChannel 51 = .ok (.iconst 0, 1) := by decide +kernel
theorem dX6_setChannel_52 : decode cX6_setChannel 52 = .ok (.ireturn, 1) := by decide +kernel
theorem dX6_setChannel_53 : decode cX6_setChannel 53 = .ok (.bipush 10, 2) := by decide +kernel
theorem dX6_setChannel_55 : decode cX6_setChannel 55 = .ok (.aload_n 0, 1) := by decide +kernel
theorem dX6_setChannel_56 : decode cX6_setChannel 56 = .ok (.getfield 20, 3) := by decide +kernel
theorem dX6_setChannel_59 : decode cX6_setChannel 59 = .ok (.iload_n 1, 1) := by decide +kernel
theorem dX6_setChannel_60 : decode cX6_setChannel 60 = .ok (.iaload, 1) := by decide +kernel
theorem dX6_setChannel_61 : decode cX6_setChannel 61 = .ok (.imul, 1) := by decide +kernel
theorem dX6_setChannel_62 : decode cX6_setChannel 62 = .ok (.aload_n 0, 1) := by decide +kernel
theorem dX6_setChannel_63 : decode cX6_setChannel 63 = .ok (.getfield 23, 3) := by decide +kernel
theorem dX6_setChannel_66 : decode cX6_setChannel 66 = .ok (.iload_n 1, 1) := by decide +kernel
theorem dX6_setChannel_67 : decode cX6_setChannel 67 = .ok (.iaload, 1) := by decide +kernel
theorem dX6_setChannel_68 : decode cX6_setChannel 68 = .ok (.iadd, 1) := by decide +kernel
theorem dX6_setChannel_69 : decode cX6_setChannel 69 = .ok (.istore 5, 2) := by decide +kernel
theorem dX6_setChannel_71 : decode cX6_setChannel 71 = .ok (.aload_n 0, 1) := by decide +kernel
theorem dX6_setChannel_72 : decode cX6_setChannel 72 = .ok (.getfield 20, 3) := by decide +kernel
theorem dX6_setChannel_75 : decode cX6_setChannel 75 = .ok (.iload_n 1, 1) := by decide +kernel
theorem dX6_setChannel_76 : decode cX6_setChannel 76 = .ok (.iload_n 2, 1) := by decide +kernel
theorem dX6_setChannel_77 : decode cX6_setChannel 77 = .ok (.iastore, 1) := by decide +kernel
theorem dX6_setChannel_78 : decode cX6_setChannel 78 = .ok (.aload_n 0, 1) := by decide +kernel
theorem dX6_setChannel_79 : decode cX6_setChannel 79 = .ok (.getfield 23, 3) := by decide +kernel
theorem dX6_setChannel_82 : decode cX6_setChannel 82 = .ok (.iload_n 1, 1) := by decide +kernel
theorem dX6_setChannel_83 : decode cX6_setChannel 83 = .ok (.iload_n 3, 1) := by decide +kernel
theorem dX6_setChannel_84 : decode cX6_setChannel 84 = .ok (.iastore, 1) := by decide +kernel
theorem dX6_setChannel_85 : decode cX6_setChannel 85 = .ok (.iload 5, 2) := by decide +kernel
theorem dX6_setChannel_87 : decode cX6_setChannel 87 = .ok (.ireturn, 1) := by decide +kernel
set_option maxRecDepth 20000 in
theorem ggX6_isFade_X6_isIn : GoodIn wsX6_isFade wsX6_isIn := goodIn_r _ [4] (by decide +kernel) (by decide +kernel)
set_option maxRecDepth 20000 in
theorem gX6_isFade_X6_isIn : GoodIn wsX6_isFade (va_wsS RX6 90 yX6_isIn wsX6_isIn) := goodIn_app (goodIn_of _ (by decide +kernel)) ggX6_isFade_X6_isIn
theorem dX6_isFade_0 : decode cX6_isFade 0 = .ok (.iload_n 0, 1) := by decide +kernel
theorem dX6_isFade_1 : decode cX6_isFade 1 = .ok (.iconst 0, 1) := by decide +kernel
theorem dX6_isFade_2 : decode cX6_isFade 2 = .ok (.bipush 60, 2) := by decide +kernel
theorem dX6_isFade_4 : decode cX6_isFade 4 = .ok (.invokestatic 90, 3) := by decide +kernel
theorem dX6_isFade_7 : decode cX6_isFade 7 = .ok (.ifCond .eq 17, 3) := by decide +kernel
theorem dX6_isFade_10 : decode cX6_isFade 10 = .ok (.iload_n 1, 1) := by decide +kernel
theorem dX6_isFade_11 : decode cX6_isFade 11 = .ok (.iconst 0, 1) := by decide +kernel
theorem dX6_isFade_12 : decode cX6_isFade 12 = .ok (.bipush 60, 2) := by decide +kernel
theorem dX6_isFade_14 : decode cX6_isFade 14 = .ok (.invokestatic 90, 3) := by decide +kernel
theorem dX6_isFade_17 : decode cX6_isFade 17 = .ok (.ifCond .eq 7, 3) := by decide +kernel
theorem dX6_isFade_20 : decode cX6_isFade 20 = .ok (.iconst 1, 1) := by decide +kernel
theorem dX6_isFade_21 : decode cX6_isFade 21 = .ok (.goto 4, 3) := by decide +kernel
theorem dX6_isFade_24 : decode cX6_isFade 24 = .ok (.iconst 0, 1) := by decide +kernel
theorem dX6_isFade_25 : decode cX6_isFade 25 = .ok (.ireturn, 1) := by decide +kernel
set_option maxRecDepth 20000 in
theorem ggX6_isCue_X6_isIn : GoodIn wsX6_isCue wsX6_isIn := goodIn_r _ [5] (by decide +kernel) (by decide +kernel)
set_option maxRecDepth 20000 in
theorem gX6_isCue_X6_isIn : GoodIn wsX6_isCue (va_wsS RX6 90 yX6_isIn wsX6_isIn) := goodIn_app (goodIn_of _ (by decide +kernel)) ggX6_isCue_X6_isIn
theorem dX6_isCue_0 : decode cX6_isCue 0 = .ok (.iload_n 1, 1) := by decide +kernel
theorem dX6_isCue_1 : decode cX6_isCue 1 = .ok (.iconst 0, 1) := by decide +kernel
theorem dX6_isCue_2 : decode cX6_isCue 2 = .ok (.aload_n 0, 1) := by decide +kernel
theorem dX6_isCue_3 : decode cX6_isCue 3 = .ok (.getfield 111, 3) := by decide +kernel
theorem dX6_isCue_6 : decode cX6_isCue 6 = .ok (.iconst 1, 1) := by decide +kernel
theorem dX6_isCue_7 : decode cX6_isCue 7 = .ok (.isub, 1) := by decide +kernel
theorem dX6_isCue_8 : decode cX6_isCue 8 = .ok (.invokestatic 90, 3) := by decide +kernel
theorem dX6_isCue_11 : decode cX6_isCue 11 = .ok (.ireturn, 1) := by decide +kernel
set_option maxRecDepth 20000 in
theorem ggX6_addCue_X6_isLine : GoodIn wsX6_addCue wsX6_isLine := goodIn_r _ [10, 11, 12, 13, 9, 14, 23, 24, 25, 26, 27, 28, 29, 30, 31, 32, 33, 34, 35, 36, 37, 38, 39, 40, 41, 42, 43, 44, 45, 46, 47, 48, 49, 50, 51, 52] (by decide +kernel) (by decide +kernel)
set_option maxRecDepth 20000 in
theorem gX6_addCue_X6_isLine : GoodIn wsX6_addCue (wsV RX6 98 RX6 yX6_isLine wsX6_isLine) := goodIn_app (goodIn_of _ (by decide +kernel)) ggX6_addCue_X6_isLine
set_option maxRecDepth 20000 in
theorem ggX6_addCue_X6_isFade : GoodIn wsX6_addCue wsX6_isFade := goodIn_r _ [17, 12, 13, 9, 14] (by decide +kernel) (by decide +kernel)
set_option maxRecDepth 20000 in
theorem gX6_addCue_X6_isFade : GoodIn wsX6_addCue (va_wsS RX6 114 yX6_isFade wsX6_isFade) := goodIn_app (goodIn_of _ (by decide +kernel)) ggX6_addCue_X6_isFade
set_option maxRecDepth 20000 in
theorem ggX6_addCue_X6_isFine : GoodIn wsX6_addCue wsX6_isFine := goodIn_r _ [21, 22, 23, 24, 25, 26, 27, 28, 29, 30, 31, 32, 33, 34, 35, 36, 37, 38, 39, 40, 41, 42, 43, 44, 45, 46, 47, 48, 49, 50, 51, 52] (by decide +kernel) (by decide +kernel)
set_option maxRecDepth 20000 in
theorem gX6_addCue_X6_isFine : GoodIn wsX6_addCue (wsV RX6 94 RX6 yX6_isFine wsX6_isFine) := goodIn_app (goodIn_of _ (by decide +kernel)) ggX6_addCue_X6_isFine
theorem dX6_addCue_0 : decode cX6_addCue 0 = .ok (.aload_n 0, 1) := by decide +kernel
theorem dX6_addCue_1 : decode cX6_addCue 1 = .ok (.aload_n 0, 1) := by decide +kernel
theorem dX6_addCue_2 : decode cX6_addCue 2 = .ok (.iload_n 1, 1) := by decide +kernel
theorem dX6_addCue_3 : decode cX6_addCue 3 = .ok (.invokevirtual 98, 3) := by decide +kernel
theorem dX6_addCue_6 : decode cX6_addCue 6 = .ok (.ifCond .ne 7, 3) := by decide +kernel
theorem dX6_addCue_9 : decode cX6_addCue 9 = .ok (.iconst 1, 1) := by decide +kernel
theorem dX6_addCue_10 : decode cX6_addCue 10 = .ok (.goto 29, 3) := by decide +kernel
theorem dX6_addCue_13 : decode cX6_addCue 13 = .ok (.iload_n 2, 1) := by decide +kernel
theorem dX6_addCue_14 : decode cX6_addCue 14 = .ok (.iload_n 3, 1) := by decide +kernel
theorem dX6_addCue_15 : decode cX6_addCue 15 = .ok (.invokestatic 114, 3) := by decide +kernel
theorem dX6_addCue_18 : decode cX6_addCue 18 = .ok (.ifCond .ne 7, 3) := by decide +kernel
theorem dX6_addCue_21 : decode cX6_addCue 21 = .ok (.iconst 2, 1) := by decide +kernel
theorem dX6_addCue_22 : decode cX6_addCue 22 = .ok (.goto 17, 3) := by decide +kernel
theorem dX6_addCue_25 : decode cX6_addCue 25 = .ok (.aload_n 0, 1) := by decide +kernel
theorem dX6_addCue_26 : decode cX6_addCue 26 = .ok (.getfield 111, 3) := by decide +kernel
theorem dX6_addCue_29 : decode cX6_addCue 29 = .ok (.bipush 20, 2) := by decide +kernel
theorem dX6_addCue_31 : decode cX6_addCue 31 = .ok (.if_icmp .ne 7, 3) := by decide +kernel
theorem dX6_addCue_34 : decode cX6_addCue 34 = .ok (.iconst 3, 1) := by decide +kernel
theorem dX6_addCue_35 : decode cX6_addCue 35 = .ok (.goto 4, 3) := by decide +kernel
theorem dX6_addCue_38 : decode cX6_addCue 38 = .ok (.iconst 0, 1) := by decide +kernel
theorem dX6_addCue_39 : decode cX6_addCue 39 = .ok (.invokevirtual 94, 3) := by decide +kernel
theorem dX6_addCue_42 : decode cX6_addCue 42 = .ok (.ifCond .ne 5, 3) := by decide +kernel
theorem dX6_addCue_45 : decode cX6_addCue 45 = .ok (.iconst 0, 1) := by decide +kernel
theorem dX6_addCue_46 : decode cX6_addCue 46 = .ok (.ireturn, 1) := by decide +kernel
theorem dX6_addCue_47 : decode cX6_addCue 47 = .ok (.aload_n 0, 1) := by decide +kernel
theorem dX6_addCue_48 : decode cX6_addCue 48 = .ok (.getfield 26, 3) := by decide +kernel
theorem dX6_addCue_51 : decode cX6_addCue 51 = .ok (.aload_n 0, 1) := by decide +kernel
theorem dX6_addCue_52 : decode cX6_addCue 52 = .ok (.getfield 111, 3) := by decide +kernel
theorem dX6_addCue_55 : decode cX6_addCue 55 = .ok (.iload_n 1, 1) := by decide +kernel
theorem dX6_addCue_56 : decode cX6_addCue 56 = .ok (.iastore, 1) := by decide +kernel
theorem dX6_addCue_57 : decode cX6_addCue 57 = .ok (.aload_n 0, 1) := by decide +kernel
theorem dX6_addCue_58 : decode cX6_addCue 58 = .ok (.getfield 29, 3) := by decide +kernel
theorem dX6_addCue_61 : decode cX6_addCue 61 = .ok (.aload_n 0, 1) := by decide +kernel
theorem dX6_addCue_62 : decode cX6_addCue 62 = .ok (.getfield 111, 3) := by decide +kernel
theorem dX6_addCue_65 : decode cX6_addCue 65 = .ok (.iload_n 2, 1) := by decide +kernel
theorem dX6_addCue_66 : decode cX6_addCue 66 = .ok (.iastore, 1) := by decide +kernel
theorem dX6_addCue_67 : decode cX6_addCue 67 = .ok (.aload_n 0, 1) := by decide +kernel
theorem dX6_addCue_68 : decode cX6_addCue 68 = .ok (.getfield 32, 3) := by decide +kernel
theorem dX6_addCue_71 : decode cX6_addCue 71 = .ok (.aload_n 0, 1) := by decide +kernel
theorem dX6_addCue_72 : decode cX6_addCue 72 = .ok (.getfield 111, 3) := by decide +kernel
theorem dX6_addCue_75 : decode cX6_addCue 75 = .ok (.iload_n 3, 1) := by decide +kernel
theorem dX6_addCue_76 : decode cX6_addCue 76 = .ok (.iastore, 1) := by decide +kernel
theorem dX6_addCue_77 : decode cX6_addCue 77 = .ok (.iconst 0, 1) := by decide +kernel
theorem dX6_addCue_78 : decode cX6_addCue 78 = .ok (.istore 4, 2) := by decide +kernel
theorem dX6_addCue_80 : decode cX6_addCue 80 = .ok (.iload 4, 2) := by decide +kernel
theorem dX6_addCue_82 : decode cX6_addCue 82 = .ok (.bipush 10, 2) := by decide +kernel
theorem dX6_addCue_84 : decode cX6_addCue 84 = .ok (.if_icmp .ge 25, 3) := by decide +kernel
theorem dX6_addCue_87 : decode cX6_addCue 87 = .ok (.aload_n 0, 1) := by decide +kernel
theorem dX6_addCue_88 : decode cX6_addCue 88 = .ok (.getfield 35, 3) := by decide +kernel
theorem dX6_addCue_91 : decode cX6_addCue 91 = .ok (.bipush 10, 2) := by decide +kernel
theorem dX6_addCue_93 : decode cX6_addCue 93 = .ok (.aload_n 0, 1) := by decide +kernel
theorem dX6_addCue_94 : decode cX6_addCue 94 = .ok (.getfield 111, 3) := by decide +kernel
theorem dX6_addCue_97 : decode cX6_addCue 97 = .ok (.imul, 1) := by decide +kernel
theorem dX6_addCue_98 : decode cX6_addCue 98 = .ok (.iload 4, 2) := by decide +kernel
theorem dX6_addCue_100 : decode cX6_addCue 100 = .ok (.iadd, 1) := by decide +kernel
theorem dX6_addCue_101 : decode cX6_addCue 101 = .ok (.iconst (-1), 1) := by decide +kernel
theorem dX6_addCue_102 : decode cX6_addCue 102 = .ok (.iastore, 1) := by decide +kernel
theorem dX6_addCue_103 : decode cX6_addCue 103 = .ok (.iinc 4 1, 3) := by decide +kernel
theorem dX6_addCue_106 : decode cX6_addCue 106 = .ok (.goto (-26), 3) := by decide +kernel
theorem dX6_addCue_109 : decode cX6_addCue 109 = .ok (.aload_n 0, 1) := by decide +kernel
theorem dX6_addCue_110 : decode cX6_addCue 110 = .ok (.dup, 1) := by decide +kernel
theorem dX6_addCue_111 : decode cX6_addCue 111 = .ok (.getfield 111, 3) := by decide +kernel
theorem dX6_addCue_114 : decode cX6_addCue 114 = .ok (.iconst 1, 1) := by decide +kernel
theorem dX6_addCue_115 : decode cX6_addCue 115 = .ok (.iadd, 1) := by decide +kernel
theorem dX6_addCue_116 : decode cX6_addCue 116 = .ok (.putfield 111, 3) := by decide +kernel
theorem dX6_addCue_119 : decode cX6_addCue 119 = .ok (.aload_n 0, 1) := by decide +kernel
theorem dX6_addCue_120 : decode cX6_addCue 120 = .ok (.getfield 111, 3) := by decide +kernel
theorem dX6_addCue_123 : decode cX6_addCue 123 = .ok (.iconst 1, 1) := by decide +kernel
theorem dX6_addCue_124 : decode cX6_addCue 124 = .ok (.isub, 1) := by decide +kernel
theorem dX6_addCue_125 : decode cX6_addCue 125 = .ok (.ireturn, 1) := by decide +kernel
set_option maxRecDepth 20000 in
theorem ggX6_move_X6_isCue : GoodIn wsX6_move wsX6_isCue := goodIn_r _ [8, 9, 10, 11, 7, 12, 26, 27, 28, 29, 30, 31, 32, 33, 34, 35, 36, 37, 38, 39, 40, 41, 42, 43, 44, 45, 46, 47, 48, 49, 50, 51, 52, 53, 54, 55] (by decide +kernel) (by decide +kernel)
set_option maxRecDepth 20000 in
theorem gX6_move_X6_isCue : GoodIn wsX6_move (wsV RX6 118 RX6 yX6_isCue wsX6_isCue) := goodIn_app (goodIn_of _ (by decide +kernel)) ggX6_move_X6_isCue
set_option maxRecDepth 20000 in
theorem ggX6_move_X6_isLine : GoodIn wsX6_move wsX6_isLine := goodIn_r _ [16, 17, 10, 11, 7, 12, 26, 27, 28, 29, 30, 31, 32, 33, 34, 35, 36, 37, 38, 39, 40, 41, 42, 43, 44, 45, 46, 47, 48, 49, 50, 51, 52, 53, 54, 55] (by decide +kernel) (by decide +kernel)
set_option maxRecDepth 20000 in
theorem gX6_move_X6_isLine : GoodIn wsX6_move (wsV RX6 98 RX6 yX6_isLine wsX6_isLine) := goodIn_app (goodIn_of _ (by decide +kernel)) ggX6_move_X6_isLine
set_option maxRecDepth 20000 in
theorem ggX6_move_X6_isFade : GoodIn wsX6_move wsX6_isFade := goodIn_r _ [20, 10, 11, 7, 12] (by decide +kernel) (by decide +kernel)
set_option maxRecDepth 20000 in
theorem gX6_move_X6_isFade : GoodIn wsX6_move (va_wsS RX6 114 yX6_isFade wsX6_isFade) := goodIn_app (goodIn_of _ (by decide +kernel)) ggX6_move_X6_isFade
set_option maxRecDepth 20000 in
theorem ggX6_move_X6_isFine : GoodIn wsX6_move wsX6_isFine := goodIn_r _ [24, 25, 26, 27, 28, 29, 30, 31, 32, 33, 34, 35, 36, 37, 38, 39, 40, 41, 42, 43, 44, 45, 46, 47, 48, 49, 50, 51, 52, 53, 54, 55] (by decide +kernel) (by decide +kernel)
set_option maxRecDepth 20000 in
theorem gX6_move_X6_isFine : GoodIn wsX6_move (wsV RX6 94 RX6 yX6_isFine wsX6_isFine) := goodIn_app (goodIn_of _ (by decide +kernel)) ggX6_move_X6_isFine
theorem dX6_move_0 : decode cX6_move 0 = .ok (.aload_n 0, 1) := by decide +kernel
theorem dX6_move_1 : decode cX6_move 1 = .ok (.iload_n 1, 1) := by decide +kernel
theorem dX6_move_2 : decode cX6_move 2 = .ok (.invokevirtual 118, 3) := by decide +kernel
theorem dX6_move_5 : decode cX6_move 5 = .ok (.ifCond .eq 15, 3) := by decide +kernel
theorem dX6_move_8 : decode cX6_move 8 = .ok (.aload_n 0, 1) := by decide +kernel
theorem dX6_move_9 : decode cX6_move 9 = .ok (.iload_n 2, 1) := by decide +kernel
theorem dX6_move_10 : decode cX6_move 10 = .ok (.invokevirtual 98, 3) := by decide +kernel
theorem dX6_move_13 : decode cX6_move 13 = .ok (.ifCond .eq 7, 3) := by decide +kernel
theorem dX6_move_16 : decode cX6_move 16 = .ok (.iconst 1, 1) := by decide +kernel
theorem dX6_move_17 : decode cX6_move 17 = .ok (.goto 4, 3) := by decide +kernel
theorem dX6_move_20 : decode cX6_move 20 = .ok (.iconst 0, 1) := by decide +kernel
theorem dX6_move_21 : decode cX6_move 21 = .ok (.istore 5, 2) := by decide +kernel
theorem dX6_move_23 : decode cX6_move 23 = .ok (.aload_n 0, 1) := by decide +kernel
theorem dX6_move_24 : decode cX6_move 24 = .ok (.iload 5, 2) := by decide +kernel
theorem dX6_move_26 : decode cX6_move 26 = .ok (.ifCond .ne 7, 3) := by decide +kernel
theorem dX6_move_29 : decode cX6_move 29 = .ok (.iconst 1, 1) := by decide +kernel
theorem dX6_move_30 : decode cX6_move 30 = .ok (.goto 17, 3) := by decide +kernel
theorem dX6_move_33 : decode cX6_move 33 = .ok (.iload_n 3, 1) := by decide +kernel
theorem dX6_move_34 : decode cX6_move 34 = .ok (.iload 4, 2) := by decide +kernel
theorem dX6_move_36 : decode cX6_move 36 = .ok (.invokestatic 114, 3) := by decide +kernel
theorem dX6_move_39 : decode cX6_move 39 = .ok (.ifCond .ne 7, 3) := by decide +kernel
theorem dX6_move_42 : decode cX6_move 42 = .ok (.iconst 2, 1) := by decide +kernel
theorem dX6_move_43 : decode cX6_move 43 = .ok (.goto 4, 3) := by decide +kernel
theorem dX6_move_46 : decode cX6_move 46 = .ok (.iconst 0, 1) := by decide +kernel
theorem dX6_move_47 : decode cX6_move 47 = .ok (.invokevirtual 94, 3) := by decide +kernel
theorem dX6_move_50 : decode cX6_move 50 = .ok (.ifCond .ne 5, 3) := by decide +kernel
theorem dX6_move_53 : decode cX6_move 53 = .ok (.iconst 0, 1) := by decide +kernel
theorem dX6_move_54 : decode cX6_move 54 = .ok (.ireturn, 1) := by decide +kernel
theorem dX6_move_55 : decode cX6_move 55 = .ok (.aload_n 0, 1) := by decide +kernel
theorem dX6_move_56 : decode cX6_move 56 = .ok (.getfield 26, 3) := by decide +kernel
theorem dX6_move_59 : decode cX6_move 59 = .ok (.iload_n 1, 1) := by decide +kernel
theorem dX6_move_60 : decode cX6_move 60 = .ok (.iaload, 1) := by decide +kernel
theorem dX6_move_61 : decode cX6_move 61 = .ok (.istore 6, 2) := by decide +kernel
theorem dX6_move_63 : decode cX6_move 63 = .ok (.aload_n 0, 1) := by decide +kernel
theorem dX6_move_64 : decode cX6_move 64 = .ok (.getfield 26, 3) := by decide +kernel
theorem dX6_move_67 : decode cX6_move 67 = .ok (.iload_n 1, 1) := by decide +kernel
theorem dX6_move_68 : decode cX6_move 68 = .ok (.iload_n 2, 1) := by decide +kernel
theorem dX6_move_69 : decode cX6_move 69 = .ok (.iastore, 1) := by decide +kernel
theorem dX6_move_70 : decode cX6_move 70 = .ok (.aload_n 0, 1) := by decide +kernel
theorem dX6_move_71 : decode cX6_move 71 = .ok (.getfield 29, 3) := by decide +kernel
theorem dX6_move_74 : decode cX6_move 74 = .ok (.iload_n 1, 1) := by decide +kernel
theorem dX6_move_75 : decode cX6_move 75 = .ok (.iload_n 3, 1) := by decide +kernel
theorem dX6_move_76 : decode cX6_move 76 = .ok (.iastore, 1) := by decide +kernel
theorem dX6_move_77 : decode cX6_move 77 = .ok (.aload_n 0, 1) := by decide +kernel
theorem dX6_move_78 : decode cX6_move 78 = .ok (.getfield 32, 3) := by decide +kernel
theorem dX6_move_81 : decode cX6_move 81 = .ok (.iload_n 1, 1) := by decide +kernel
theorem dX6_move_82 : decode cX6_move 82 = .ok (.iload 4, 2) := by decide +kernel
theorem dX6_move_84 : decode cX6_move 84 = .ok (.iastore, 1) := by decide +kernel
theorem dX6_move_85 : decode cX6_move 85 = .ok (.iload 6, 2) := by decide +kernel
theorem dX6_move_87 : decode cX6_move 87 = .ok (.ireturn, 1) := by decide +kernel
set_option maxRecDepth 20000 in
theorem ggX6_change_X6_isCue : GoodIn wsX6_change wsX6_isCue := goodIn_r _ [6, 7, 8, 9, 5, 10, 19, 20, 21, 22, 23, 24, 25, 26, 27, 28, 29, 30, 31, 32, 33, 34, 35, 36, 37, 38, 39, 40, 41, 42, 43, 44, 45, 46, 47, 48] (by decide +kernel) (by decide +kernel)
set_option maxRecDepth 20000 in
theorem gX6_change_X6_isCue : GoodIn wsX6_change (wsV RX6 118 RX6 yX6_isCue wsX6_isCue) := goodIn_app (goodIn_of _ (by decide +kernel)) ggX6_change_X6_isCue
set_option maxRecDepth 20000 in
theorem ggX6_change_X6_isChannel : GoodIn wsX6_change wsX6_isChannel := goodIn_r _ [13, 8, 9, 5, 10] (by decide +kernel) (by decide +kernel)
set_option maxRecDepth 20000 in
theorem gX6_change_X6_isChannel : GoodIn wsX6_change (va_wsS RX6 108 yX6_isChannel wsX6_isChannel) := goodIn_app (goodIn_of _ (by decide +kernel)) ggX6_change_X6_isChannel
set_option maxRecDepth 20000 in
theorem ggX6_change_X6_isIn : GoodIn wsX6_change wsX6_isIn := goodIn_r _ [10] (by decide +kernel) (by decide +kernel)
set_option maxRecDepth 20000 in
theorem gX6_change_X6_isIn : GoodIn wsX6_change (va_wsS RX6 90 yX6_isIn wsX6_isIn) := goodIn_app (goodIn_of _ (by decide +kernel)) ggX6_change_X6_isIn
set_option maxRecDepth 20000 in
theorem ggX6_change_X6_isFine : GoodIn wsX6_change wsX6_isFine := goodIn_r _ [17, 18, 19, 20, 21, 22, 23, 24, 25, 26, 27, 28, 29, 30, 31, 32, 33, 34, 35, 36, 37, 38, 39, 40, 41, 42, 43, 44, 45, 46, 47, 48] (by decide +kernel) (by decide +kernel)
set_option maxRecDepth 20000 in
theorem gX6_change_X6_isFine : GoodIn wsX6_change (wsV RX6 94 RX6 yX6_isFine wsX6_isFine) := goodIn_app (goodIn_of _ (by decide +kernel)) ggX6_change_X6_isFine
theorem dX6_change_0 : decode cX6_change 0 = .ok (.aload_n 0, 1) := by decide +kernel
theorem dX6_change_1 : decode cX6_change 1 = .ok (.iload_n 1, 1) := by decide +kernel
theorem dX6_change_2 : decode cX6_change 2 = .ok (.invokevirtual 118, 3) := by decide +kernel
theorem dX6_change_5 : decode cX6_change 5 = .ok (.ifCond .eq 14, 3) := by decide +kernel
theorem dX6_change_8 : decode cX6_change 8 = .ok (.iload_n 2, 1) := by decide +kernel
theorem dX6_change_9 : decode cX6_change 9 = .ok (.invokestatic 108, 3) := by decide +kernel
theorem dX6_change_12 : decode cX6_change 12 = .ok (.ifCond .eq 7, 3) := by decide +kernel
theorem dX6_change_15 : decode cX6_change 15 = .ok (.iconst 1, 1) := by decide +kernel
theorem dX6_change_16 : decode cX6_change 16 = .ok (.goto 4, 3) := by decide +kernel
theorem dX6_change_19 : decode cX6_change 19 = .ok (.iconst 0, 1) := by decide +kernel
theorem dX6_change_20 : decode cX6_change 20 = .ok (.istore 4, 2) := by decide +kernel
theorem dX6_change_22 : decode cX6_change 22 = .ok (.aload_n 0, 1) := by decide +kernel
theorem dX6_change_23 : decode cX6_change 23 = .ok (.iload 4, 2) := by decide +kernel
theorem dX6_change_25 : decode cX6_change 25 = .ok (.ifCond .ne 7, 3) := by decide +kernel
theorem dX6_change_28 : decode cX6_change 28 = .ok (.iconst 1, 1) := by decide +kernel
theorem dX6_change_29 : decode cX6_change 29 = .ok (.goto 18, 3) := by decide +kernel
theorem dX6_change_32 : decode cX6_change 32 = .ok (.iload_n 3, 1) := by decide +kernel
theorem dX6_change_33 : decode cX6_change 33 = .ok (.iconst (-1), 1) := by decide +kernel
theorem dX6_change_34 : decode cX6_change 34 = .ok (.bipush 100, 2) := by decide +kernel
theorem dX6_change_36 : decode cX6_change 36 = .ok (.invokestatic 90, 3) := by decide +kernel
theorem dX6_change_39 : decode cX6_change 39 = .ok (.ifCond .ne 7, 3) := by decide +kernel
theorem dX6_change_42 : decode cX6_change 42 = .ok (.iconst 2, 1) := by decide +kernel
theorem dX6_change_43 : decode cX6_change 43 = .ok (.goto 4, 3) := by decide +kernel
theorem dX6_change_46 : decode cX6_change 46 = .ok (.iconst 0, 1) := by decide +kernel
theorem dX6_change_47 : decode cX6_change 47 = .ok (.invokevirtual 94, 3) := by decide +kernel
theorem dX6_change_50 : decode cX6_change 50 = .ok (.ifCond .ne 5, 3) := by decide +kernel
theorem dX6_change_53 : decode cX6_change 53 = .ok (.iconst 0, 1) := by decide +kernel
theorem dX6_change_54 : decode cX6_change 54 = .ok (.ireturn, 1) := by decide +kernel
theorem dX6_change_55 : decode cX6_change 55 = .ok (.aload_n 0, 1) := by decide +kernel
theorem dX6_change_56 : decode cX6_change 56 = .ok (.getfield 35, 3) := by decide +kernel
theorem dX6_change_59 : decode cX6_change 59 = .ok (.bipush 10, 2) := by decide +kernel
theorem dX6_change_61 : decode cX6_change 61 = .ok (.iload_n 1, 1) := by decide +kernel
theorem dX6_change_62 : decode cX6_change 62 = .ok (.imul, 1) := by decide +kernel
theorem dX6_change_63 : decode cX6_change 63 = .ok (.iload_n 2, 1) := by decide +kernel
theorem dX6_change_64 : decode cX6_change 64 = .ok (.iadd, 1) := by decide +kernel
theorem dX6_change_65 : decode cX6_change 65 = .ok (.iaload, 1) := by decide +kernel
theorem dX6_change_66 : decode cX6_change 66 = .ok (.istore 5, 2) := by decide +kernel
theorem dX6_change_68 : decode cX6_change 68 = .ok (.aload_n 0, 1) := by decide +kernel
theorem dX6_change_69 : decode cX6_change 69 = .ok (.getfield 35, 3) := by decide +kernel
theorem dX6_change_72 : decode cX6_change 72 = .ok (.bipush 10, 2) := by decide +kernel
theorem dX6_change_74 : decode cX6_change 74 = .ok (.iload_n 1, 1) := by decide +kernel
theorem dX6_change_75 : decode cX6_change 75 = .ok (.imul, 1) := by decide +kernel
theorem dX6_change_76 : decode cX6_change 76 = .ok (.iload_n 2, 1) := by decide +kernel
theorem dX6_change_77 : decode cX6_change 77 = .ok (.iadd, 1) := by decide +kernel
theorem dX6_change_78 : decode cX6_change 78 = .ok (.iload_n 3, 1) := by decide +kernel
theorem dX6_change_79 : decode cX6_change 79 = .ok (.iastore, 1) := by decide +kernel
theorem dX6_change_80 : decode cX6_change 80 = .ok (.iload 5, 2) := by decide +kernel
theorem dX6_change_82 : decode cX6_change 82 = .ok (.ireturn, 1) := by decide +kernel
theorem dX6_cues_0 : decode cX6_cues 0 = .ok (.aload_n 0, 1) := by decide +kernel
theorem dX6_cues_1 : decode cX6_cues 1 = .ok (.iconst 0, 1) := by decide +kernel
theorem dX6_cues_2 : decode cX6_cues 2 = .ok (.putfield 83, 3) := by decide +kernel
theorem dX6_cues_5 : decode cX6_cues 5 = .ok (.aload_n 0, 1) := by decide +kernel
theorem dX6_cues_6 : decode cX6_cues 6 = .ok (.getfield 111, 3) := by decide +kernel
theorem dX6_cues_9 : decode cX6_cues 9 = .ok (.ireturn, 1) := by decide +kernel
theorem dX6_isPlayed_0 : decode cX6_isPlayed 0 = .ok (.aload_n 0, 1) := by decide +kernel
theorem dX6_isPlayed_1 : decode cX6_isPlayed 1 = .ok (.getfield 13, 3) := by decide +kernel
theorem dX6_isPlayed_4 : decode cX6_isPlayed 4 = .ok (.aload_n 0, 1) := by decide +kernel
theorem dX6_isPlayed_5 : decode cX6_isPlayed 5 = .ok (.getfield 26, 3) := by decide +kernel
theorem dX6_isPlayed_8 : decode cX6_isPlayed 8 = .ok (.iload_n 1, 1) := by decide +kernel
theorem dX6_isPlayed_9 : decode cX6_isPlayed 9 = .ok (.iaload, 1) := by decide +kernel
theorem dX6_isPlayed_10 : decode cX6_isPlayed 10 = .ok (.baload, 1) := by decide +kernel
theorem dX6_isPlayed_11 : decode cX6_isPlayed 11 = .ok (.ifCond .ne 7, 3) := by decide +kernel
theorem dX6_isPlayed_14 : decode cX6_isPlayed 14 = .ok (.iconst 1, 1) := by decide +kernel
theorem dX6_isPlayed_15 : decode cX6_isPlayed 15 = .ok (.goto 4, 3) := by decide +kernel
theorem dX6_isPlayed_18 : decode cX6_isPlayed 18 = .ok (.iconst 0, 1) := by decide +kernel
theorem dX6_isPlayed_19 : decode cX6_isPlayed 19 = .ok (.ireturn, 1) := by decide +kernel
theorem dX6_when_0 : decode cX6_when 0 = .ok (.aload_n 0, 1) := by decide +kernel
theorem dX6_when_1 : decode cX6_when 1 = .ok (.getfield 71, 3) := by decide +kernel
theorem dX6_when_4 : decode cX6_when 4 = .ok (.aload_n 0, 1) := by decide +kernel
theorem dX6_when_5 : decode cX6_when 5 = .ok (.getfield 26, 3) := by decide +kernel
theorem dX6_when_8 : decode cX6_when 8 = .ok (.iload_n 1, 1) := by decide +kernel
theorem dX6_when_9 : decode cX6_when 9 = .ok (.iaload, 1) := by decide +kernel
theorem dX6_when_10 : decode cX6_when 10 = .ok (.iaload, 1) := by decide +kernel
theorem dX6_when_11 : decode cX6_when 11 = .ok (.aload_n 0, 1) := by decide +kernel
theorem dX6_when_12 : decode cX6_when 12 = .ok (.getfield 29, 3) := by decide +kernel
theorem dX6_when_15 : decode cX6_when 15 = .ok (.iload_n 1, 1) := by decide +kernel
theorem dX6_when_16 : decode cX6_when 16 = .ok (.iaload, 1) := by decide +kernel
theorem dX6_when_17 : decode cX6_when 17 = .ok (.iadd, 1) := by decide +kernel
theorem dX6_when_18 : decode cX6_when 18 = .ok (.ireturn, 1) := by decide +kernel
theorem dX6_isAhead_0 : decode cX6_isAhead 0 = .ok (.aload_n 0, 1) := by decide +kernel
theorem dX6_isAhead_1 : decode cX6_isAhead 1 = .ok (.getfield 26, 3) := by decide +kernel
theorem dX6_isAhead_4 : decode cX6_isAhead 4 = .ok (.iload_n 1, 1) := by decide +kernel
theorem dX6_isAhead_5 : decode cX6_isAhead 5 = .ok (.iaload, 1) := by decide +kernel
theorem dX6_isAhead_6 : decode cX6_isAhead 6 = .ok (.aload_n 0, 1) := by decide +kernel
theorem dX6_isAhead_7 : decode cX6_isAhead 7 = .ok (.getfield 26, 3) := by decide +kernel
theorem dX6_isAhead_10 : decode cX6_isAhead 10 = .ok (.iload_n 2, 1) := by decide +kernel
theorem dX6_isAhead_11 : decode cX6_isAhead 11 = .ok (.iaload, 1) := by decide +kernel
theorem dX6_isAhead_12 : decode cX6_isAhead 12 = .ok (.if_icmp .eq 24, 3) := by decide +kernel
theorem dX6_isAhead_15 : decode cX6_isAhead 15 = .ok (.aload_n 0, 1) := by decide +kernel
theorem dX6_isAhead_16 : decode cX6_isAhead 16 = .ok (.getfield 26, 3) := by decide +kernel
theorem dX6_isAhead_19 : decode cX6_isAhead 19 = .ok (.iload_n 1, 1) := by decide +kernel
theorem dX6_isAhead_20 : decode cX6_isAhead 20 = .ok (.iaload, 1) := by decide +kernel
theorem dX6_isAhead_21 : decode cX6_isAhead 21 = .ok (.aload_n 0, 1) := by decide +kernel
theorem dX6_isAhead_22 : decode cX6_isAhead 22 = .ok (.getfield 26, 3) := by decide +kernel
theorem dX6_isAhead_25 : decode cX6_isAhead 25 = .ok (.iload_n 2, 1) := by decide +kernel
theorem dX6_isAhead_26 : decode cX6_isAhead 26 = .ok (.iaload, 1) := by decide +kernel
theorem dX6_isAhead_27 : decode cX6_isAhead 27 = .ok (.if_icmp .ge 7, 3) := by decide +kernel
theorem dX6_isAhead_30 : decode cX6_isAhead 30 = .ok (.iconst 1, 1) := by decide +kernel
theorem dX6_isAhead_31 : decode cX6_isAhead 31 = .ok (.goto 4, 3) := by decide +kernel
theorem dX6_isAhead_34 : decode cX6_isAhead 34 = .ok (.iconst 0, 1) := by decide +kernel
theorem dX6_isAhead_35 : decode cX6_isAhead 35 = .ok (.ireturn, 1) := by decide +kernel
theorem dX6_isAhead_36 : decode cX6_isAhead 36 = .ok (.aload_n 0, 1) := by decide +kernel
theorem dX6_isAhead_37 : decode cX6_isAhead 37 = .ok (.getfield 29, 3) := by decide +kernel
theorem dX6_isAhead_40 : decode cX6_isAhead 40 = .ok (.iload_n 1, 1) := by decide +kernel
theorem dX6_isAhead_41 : decode cX6_isAhead 41 = .ok (.iaload, 1) := by decide +kernel
theorem dX6_isAhead_42 : decode cX6_isAhead 42 = .ok (.aload_n 0, 1) := by decide +kernel
theorem dX6_isAhead_43 : decode cX6_isAhead 43 = .ok (.getfield 29, 3) := by decide +kernel
theorem dX6_isAhead_46 : decode cX6_isAhead 46 = .ok (.iload_n 2, 1) := by decide +kernel
theorem dX6_isAhead_47 : decode cX6_isAhead 47 = .ok (.iaload, 1) := by decide +kernel
theorem dX6_isAhead_48 : decode cX6_isAhead 48 = .ok (.if_icmp .lt 23, 3) := by decide +kernel
theorem dX6_isAhead_51 : decode cX6_isAhead 51 = .ok (.aload_n 0, 1) := by decide +kernel
theorem dX6_isAhead_52 : decode cX6_isAhead 52 = .ok (.getfield 29, 3) := by decide +kernel
theorem dX6_isAhead_55 : decode cX6_isAhead 55 = .ok (.iload_n 1, 1) := by decide +kernel
theorem dX6_isAhead_56 : decode cX6_isAhead 56 = .ok (.iaload, 1) := by decide +kernel
theorem dX6_isAhead_57 : decode cX6_isAhead 57 = .ok (.aload_n 0, 1) := by decide +kernel
theorem dX6_isAhead_58 : decode cX6_isAhead 58 = .ok (.getfield 29, 3) := by decide +kernel
theorem dX6_isAhead_61 : decode cX6_isAhead 61 = .ok (.iload_n 2, 1) := by decide +kernel
theorem dX6_isAhead_62 : decode cX6_isAhead 62 = .ok (.iaload, 1) := by decide +kernel
theorem dX6_isAhead_63 : decode cX6_isAhead 63 = .ok (.if_icmp .ne 12, 3) := by decide +kernel
theorem dX6_isAhead_66 : decode cX6_isAhead 66 = .ok (.iload_n 1, 1) := by decide +kernel
theorem dX6_isAhead_67 : decode cX6_isAhead 67 = .ok (.iload_n 2, 1) := by decide +kernel
theorem dX6_isAhead_68 : decode cX6_isAhead 68 = .ok (.if_icmp .ge 7, 3) := by decide +kernel
theorem dX6_isAhead_71 : decode cX6_isAhead 71 = .ok (.iconst 1, 1) := by decide +kernel
theorem dX6_isAhead_72 : decode cX6_isAhead 72 = .ok (.goto 4, 3) := by decide +kernel
theorem dX6_isAhead_75 : decode cX6_isAhead 75 = .ok (.iconst 0, 1) := by decide +kernel
theorem dX6_isAhead_76 : decode cX6_isAhead 76 = .ok (.ireturn, 1) := by decide +kernel
set_option maxRecDepth 20000 in
theorem ggX6_orders_X6_isAhead : GoodIn wsX6_orders wsX6_isAhead := goodIn_r _ [7, 8, 9, 10, 11, 12, 13, 14, 15, 16, 17, 18, 19, 20, 21, 22, 23, 24, 25, 26, 27, 28, 29, 30, 31, 32, 33, 34, 35, 36, 37, 38, 39] (by decide +kernel) (by decide +kernel)
set_option maxRecDepth 20000 in
theorem gX6_orders_X6_isAhead : GoodIn wsX6_orders (wsV RX6 121 RX6 yX6_isAhead wsX6_isAhead) := goodIn_app (goodIn_of _ (by decide +kernel)) ggX6_orders_X6_isAhead
theorem dX6_orders_0 : decode cX6_orders 0 = .ok (.iconst 0, 1) := by decide +kernel
theorem dX6_orders_1 : decode cX6_orders 1 = .ok (.istore_n 1, 1) := by decide +kernel
theorem dX6_orders_2 : decode cX6_orders 2 = .ok (.iload_n 1, 1) := by decide +kernel
theorem dX6_orders_3 : decode cX6_orders 3 = .ok (.aload_n 0, 1) := by decide +kernel
theorem dX6_orders_4 : decode cX6_orders 4 = .ok (.getfield 111, 3) := by decide +kernel
theorem dX6_orders_7 : decode cX6_orders 7 = .ok (.if_icmp .ge 56, 3) := by decide +kernel
theorem dX6_orders_10 : decode cX6_orders 10 = .ok (.iconst 0, 1) := by decide +kernel
theorem dX6_orders_11 : decode cX6_orders 11 = .ok (.istore_n 2, 1) := by decide +kernel
theorem dX6_orders_12 : decode cX6_orders 12 = .ok (.iconst 0, 1) := by decide +kernel
theorem dX6_orders_13 : decode cX6_orders 13 = .ok (.istore_n 3, 1) := by decide +kernel
theorem dX6_orders_14 : decode cX6_orders 14 = .ok (.iload_n 3, 1) := by decide +kernel
theorem dX6_orders_15 : decode cX6_orders 15 = .ok (.aload_n 0, 1) := by decide +kernel
theorem dX6_orders_16 : decode cX6_orders 16 = .ok (.getfield 111, 3) := by decide +kernel
theorem dX6_orders_19 : decode cX6_orders 19 = .ok (.if_icmp .ge 31, 3) := by decide +kernel
theorem dX6_orders_22 : decode cX6_orders 22 = .ok (.iload_n 2, 1) := by decide +kernel
theorem dX6_orders_23 : decode cX6_orders 23 = .ok (.iload_n 3, 1) := by decide +kernel
theorem dX6_orders_24 : decode cX6_orders 24 = .ok (.iload_n 1, 1) := by decide +kernel
theorem dX6_orders_25 : decode cX6_orders 25 = .ok (.if_icmp .eq 16, 3) := by decide +kernel
theorem dX6_orders_28 : decode cX6_orders 28 = .ok (.aload_n 0, 1) := by decide +kernel
theorem dX6_orders_29 : decode cX6_orders 29 = .ok (.iload_n 3, 1) := by decide +kernel
theorem dX6_orders_30 : decode cX6_orders 30 = .ok (.iload_n 1, 1) := by decide +kernel
theorem dX6_orders_31 : decode cX6_orders 31 = .ok (.invokevirtual 121, 3) := by decide +kernel
theorem dX6_orders_34 : decode cX6_orders 34 = .ok (.ifCond .eq 7, 3) := by decide +kernel
theorem dX6_orders_37 : decode cX6_orders 37 = .ok (.iconst 1, 1) := by decide +kernel
theorem dX6_orders_38 : decode cX6_orders 38 = .ok (.goto 4, 3) := by decide +kernel
theorem dX6_orders_41 : decode cX6_orders 41 = .ok (.iconst 0, 1) := by decide +kernel
theorem dX6_orders_42 : decode cX6_orders 42 = .ok (.iadd, 1) := by decide +kernel
theorem dX6_orders_43 : decode cX6_orders 43 = .ok (.istore_n 2, 1) := by decide +kernel
theorem dX6_orders_44 : decode cX6_orders 44 = .ok (.iinc 3 1, 3) := by decide +kernel
theorem dX6_orders_47 : decode cX6_orders 47 = .ok (.goto (-33), 3) := by decide +kernel
theorem dX6_orders_50 : decode cX6_orders 50 = .ok (.aload_n 0, 1) := by decide +kernel
theorem dX6_orders_51 : decode cX6_orders 51 = .ok (.getfield 65, 3) := by decide +kernel
theorem dX6_orders_54 : decode cX6_orders 54 = .ok (.iload_n 2, 1) := by decide +kernel
theorem dX6_orders_55 : decode cX6_orders 55 = .ok (.iload_n 1, 1) := by decide +kernel
theorem dX6_orders_56 : decode cX6_orders 56 = .ok (.iastore, 1) := by decide +kernel
theorem dX6_orders_57 : decode cX6_orders 57 = .ok (.iinc 1 1, 3) := by decide +kernel
theorem dX6_orders_60 : decode cX6_orders 60 = .ok (.goto (-58), 3) := by decide +kernel
theorem dX6_orders_63 : decode cX6_orders 63 = .ok (.return_, 1) := by decide +kernel
set_option maxRecDepth 20000 in
theorem ggX6_plays_X6_orders : GoodIn wsX6_plays wsX6_orders := goodIn_r _ [13, 6, 7, 14, 15, 16, 12, 17, 18, 19, 28, 29, 30, 31, 32, 33, 34, 35, 36, 37, 38, 39, 40, 41, 42, 43, 44, 45, 46, 47, 48, 49, 50, 51, 52, 53, 54, 55, 56, 57] (by decide +kernel) (by decide +kernel)
set_option maxRecDepth 20000 in
theorem gX6_plays_X6_orders : GoodIn wsX6_plays (wsV RX6 124 RX6 yX6_orders wsX6_orders) := goodIn_app (goodIn_of _ (by decide +kernel)) ggX6_plays_X6_orders
set_option maxRecDepth 20000 in
theorem ggX6_plays_X6_isPlayed : GoodIn wsX6_plays wsX6_isPlayed := goodIn_r _ [23, 3, 18, 28, 29, 30, 31, 32, 33, 34, 35, 36, 37, 38, 39, 40, 41, 42, 43, 44, 45, 46, 47, 48, 49, 50, 51, 52, 53, 54, 55, 56, 57] (by decide +kernel) (by decide +kernel)
set_option maxRecDepth 20000 in
theorem gX6_plays_X6_isPlayed : GoodIn wsX6_plays (wsV RX6 130 RX6 yX6_isPlayed wsX6_isPlayed) := goodIn_app (goodIn_of _ (by decide +kernel)) ggX6_plays_X6_isPlayed
set_option maxRecDepth 20000 in
theorem ggX6_plays_X6_when : GoodIn wsX6_plays wsX6_when := goodIn_r _ [27, 2, 18, 19, 28, 29, 30, 31, 32, 33, 34, 35, 36, 37, 38, 39, 40, 41, 42, 43, 44, 45, 46, 47, 48, 49, 50, 51, 52, 53, 54, 55, 56, 57] (by decide +kernel) (by decide +kernel)
set_option maxRecDepth 20000 in
theorem gX6_plays_X6_when : GoodIn wsX6_plays (wsV RX6 133 RX6 yX6_when wsX6_when) := goodIn_app (goodIn_of _ (by decide +kernel)) ggX6_plays_X6_when
theorem dX6_plays_0 : decode cX6_plays 0 = .ok (.aload_n 0, 1) := by decide +kernel
theorem dX6_plays_1 : decode cX6_plays 1 = .ok (.invokevirtual 124, 3) := by decide +kernel
theorem dX6_plays_4 : decode cX6_plays 4 = .ok (.iconst 0, 1) := by decide +kernel
theorem dX6_plays_5 : decode cX6_plays 5 = .ok (.istore_n 1, 1) := by decide +kernel
theorem dX6_plays_6 : decode cX6_plays 6 = .ok (.iload_n 1, 1) := by decide +kernel
theorem dX6_plays_7 : decode cX6_plays 7 = .ok (.aload_n 0, 1) := by decide +kernel
theorem dX6_plays_8 : decode cX6_plays 8 = .ok (.getfield 87, 3) := by decide +kernel
theorem dX6_plays_11 : decode cX6_plays 11 = .ok (.if_icmp .ge 55, 3) := by decide +kernel
theorem dX6_plays_14 : decode cX6_plays 14 = .ok (.aload_n 0, 1) := by decide +kernel
theorem dX6_plays_15 : decode cX6_plays 15 = .ok (.getfield 71, 3) := by decide +kernel
theorem dX6_plays_18 : decode cX6_plays 18 = .ok (.iload_n 1, 1) := by decide +kernel
theorem dX6_plays_19 : decode cX6_plays 19 = .ok (.iload_n 1, 1) := by decide +kernel
theorem dX6_plays_20 : decode cX6_plays 20 = .ok (.ifCond .ne 7, 3) := by decide +kernel
theorem dX6_plays_23 : decode cX6_plays 23 = .ok (.iconst 0, 1) := by decide +kernel
theorem dX6_plays_24 : decode cX6_plays 24 = .ok (.goto 35, 3) := by decide +kernel
theorem dX6_plays_27 : decode cX6_plays 27 = .ok (.aload_n 0, 1) := by decide +kernel
theorem dX6_plays_28 : decode cX6_plays 28 = .ok (.getfield 71, 3) := by decide +kernel
theorem dX6_plays_31 : decode cX6_plays 31 = .ok (.iload_n 1, 1) := by decide +kernel
theorem dX6_plays_32 : decode cX6_plays 32 = .ok (.iconst 1, 1) := by decide +kernel
theorem dX6_plays_33 : decode cX6_plays 33 = .ok (.isub, 1) := by decide +kernel
theorem dX6_plays_34 : decode cX6_plays 34 = .ok (.iaload, 1) := by decide +kernel
theorem dX6_plays_35 : decode cX6_plays 35 = .ok (.aload_n 0, 1) := by decide +kernel
theorem dX6_plays_36 : decode cX6_plays 36 = .ok (.getfield 13, 3) := by decide +kernel
theorem dX6_plays_39 : decode cX6_plays 39 = .ok (.iload_n 1, 1) := by decide +kernel
theorem dX6_plays_40 : decode cX6_plays 40 = .ok (.iconst 1, 1) := by decide +kernel
theorem dX6_plays_41 : decode cX6_plays 41 = .ok (.isub, 1) := by decide +kernel
theorem dX6_plays_42 : decode cX6_plays 42 = .ok (.baload, 1) := by decide +kernel
theorem dX6_plays_43 : decode cX6_plays 43 = .ok (.ifCond .eq 7, 3) := by decide +kernel
theorem dX6_plays_46 : decode cX6_plays 46 = .ok (.iconst 0, 1) := by decide +kernel
theorem dX6_plays_47 : decode cX6_plays 47 = .ok (.goto 11, 3) := by decide +kernel
theorem dX6_plays_50 : decode cX6_plays 50 = .ok (.aload_n 0, 1) := by decide +kernel
theorem dX6_plays_51 : decode cX6_plays 51 = .ok (.getfield 7, 3) := by decide +kernel
theorem dX6_plays_54 : decode cX6_plays 54 = .ok (.iload_n 1, 1) := by decide +kernel
theorem dX6_plays_55 : decode cX6_plays 55 = .ok (.iconst 1, 1) := by decide +kernel
theorem dX6_plays_56 : decode cX6_plays 56 = .ok (.isub, 1) := by decide +kernel
theorem dX6_plays_57 : decode cX6_plays 57 = .ok (.iaload, 1) := by decide +kernel
theorem dX6_plays_58 : decode cX6_plays 58 = .ok (.iadd, 1) := by decide +kernel
theorem dX6_plays_59 : decode cX6_plays 59 = .ok (.iastore, 1) := by decide +kernel
theorem dX6_plays_60 : decode cX6_plays 60 = .ok (.iinc 1 1, 3) := by decide +kernel
theorem dX6_plays_63 : decode cX6_plays 63 = .ok (.goto (-57), 3) := by decide +kernel
theorem dX6_plays_66 : decode cX6_plays 66 = .ok (.aload_n 0, 1) := by decide +kernel
theorem dX6_plays_67 : decode cX6_plays 67 = .ok (.iconst 0, 1) := by decide +kernel
theorem dX6_plays_68 : decode cX6_plays 68 = .ok (.putfield 127, 3) := by decide +kernel
theorem dX6_plays_71 : decode cX6_plays 71 = .ok (.iconst 0, 1) := by decide +kernel
theorem dX6_plays_72 : decode cX6_plays 72 = .ok (.istore_n 1, 1) := by decide +kernel
theorem dX6_plays_73 : decode cX6_plays 73 = .ok (.iload_n 1, 1) := by decide +kernel
theorem dX6_plays_74 : decode cX6_plays 74 = .ok (.aload_n 0, 1) := by decide +kernel
theorem dX6_plays_75 : decode cX6_plays 75 = .ok (.getfield 111, 3) := by decide +kernel
theorem dX6_plays_78 : decode cX6_plays 78 = .ok (.if_icmp .ge 98, 3) := by decide +kernel
theorem dX6_plays_81 : decode cX6_plays 81 = .ok (.aload_n 0, 1) := by decide +kernel
theorem dX6_plays_82 : decode cX6_plays 82 = .ok (.aload_n 0, 1) := by decide +kernel
theorem dX6_plays_83 : decode cX6_plays 83 = .ok (.getfield 65, 3) := by decide +kernel
theorem dX6_plays_86 : decode cX6_plays 86 = .ok (.iload_n 1, 1) := by decide +kernel
theorem dX6_plays_87 : decode cX6_plays 87 = .ok (.iaload, 1) := by decide +kernel
theorem dX6_plays_88 : decode cX6_plays 88 = .ok (.invokevirtual 130, 3) := by decide +kernel
theorem dX6_plays_91 : decode cX6_plays 91 = .ok (.ifCond .eq 79, 3) := by decide +kernel
theorem dX6_plays_94 : decode cX6_plays 94 = .ok (.aload_n 0, 1) := by decide +kernel
theorem dX6_plays_95 : decode cX6_plays 95 = .ok (.getfield 127, 3) := by decide +kernel
theorem dX6_plays_98 : decode cX6_plays 98 = .ok (.istore_n 2, 1) := by decide +kernel
theorem dX6_plays_99 : decode cX6_plays 99 = .ok (.iload_n 2, 1) := by decide +kernel
theorem dX6_plays_100 : decode cX6_plays 100 = .ok (.ifCond .le 53, 3) := by decide +kernel
theorem dX6_plays_103 : decode cX6_plays 103 = .ok (.aload_n 0, 1) := by decide +kernel
theorem dX6_plays_104 : decode cX6_plays 104 = .ok (.aload_n 0, 1) := by decide +kernel
theorem dX6_plays_105 : decode cX6_plays 105 = .ok (.getfield 65, 3) := by decide +kernel
theorem dX6_plays_108 : decode cX6_plays 108 = .ok (.aload_n 0, 1) := by decide +kernel
theorem dX6_plays_109 : decode cX6_plays 109 = .ok (.getfield 68, 3) := by decide +kernel
theorem dX6_plays_112 : decode cX6_plays 112 = .ok (.iload_n 2, 1) := by decide +kernel
theorem dX6_plays_113 : decode cX6_plays 113 = .ok (.iconst 1, 1) := by decide +kernel
theorem dX6_plays_114 : decode cX6_plays 114 = .ok (.isub, 1) := by decide +kernel
theorem dX6_plays_115 : decode cX6_plays 115 = .ok (.iaload, 1) := by decide +kernel
theorem dX6_plays_116 : decode cX6_plays 116 = .ok (.iaload, 1) := by decide +kernel
theorem dX6_plays_117 : decode cX6_plays 117 = .ok (.invokevirtual 133, 3) := by decide +kernel
theorem dX6_plays_120 : decode cX6_plays 120 = .ok (.aload_n 0, 1) := by decide +kernel
theorem dX6_plays_121 : decode cX6_plays 121 = .ok (.aload_n 0, 1) := by decide +kernel
theorem dX6_plays_122 : decode cX6_plays 122 = .ok (.getfield 65, 3) := by decide +kernel
theorem dX6_plays_125 : decode cX6_plays 125 = .ok (.iload_n 1, 1) := by decide +kernel
theorem dX6_plays_126 : decode cX6_plays 126 = .ok (.iaload, 1) := by decide +kernel
theorem dX6_plays_127 : decode cX6_plays 127 = .ok (.invokevirtual 133, 3) := by decide +kernel
theorem dX6_plays_130 : decode cX6_plays 130 = .ok (.if_icmp .le 23, 3) := by decide +kernel
theorem dX6_plays_133 : decode cX6_plays 133 = .ok (.aload_n 0, 1) := by decide +kernel
theorem dX6_plays_134 : decode cX6_plays 134 = .ok (.getfield 68, 3) := by decide +kernel
theorem dX6_plays_137 : decode cX6_plays 137 = .ok (.iload_n 2, 1) := by decide +kernel
theorem dX6_plays_138 : decode cX6_plays 138 = .ok (.aload_n 0, 1) := by decide +kernel
theorem dX6_plays_139 : decode cX6_plays 139 = .ok (.getfield 68, 3) := by decide +kernel
theorem dX6_plays_142 : decode cX6_plays 142 = .ok (.iload_n 2, 1) := by decide +kernel
theorem dX6_plays_143 : decode cX6_plays 143 = .ok (.iconst 1, 1) := by decide +kernel
theorem dX6_plays_144 : decode cX6_plays 144 = .ok (.isub, 1) := by decide +kernel
theorem dX6_plays_145 : decode cX6_plays 145 = .ok (.iaload, 1) := by decide +kernel
theorem dX6_plays_146 : decode cX6_plays 146 = .ok (.iastore, 1) := by decide +kernel
theorem dX6_plays_147 : decode cX6_plays 147 = .ok (.iinc 2 (-1), 3) := by decide +kernel
theorem dX6_plays_150 : decode cX6_plays 150 = .ok (.goto (-51), 3) := by decide +kernel
theorem dX6_plays_153 : decode cX6_plays 153 = .ok (.aload_n 0, 1) := by decide +kernel
theorem dX6_plays_154 : decode cX6_plays 154 = .ok (.getfield 68, 3) := by decide +kernel
theorem dX6_plays_157 : decode cX6_plays 157 = .ok (.iload_n 2, 1) := by decide +kernel
theorem dX6_plays_158 : decode cX6_plays 158 = .ok (.iload_n 1, 1) := by decide +kernel
theorem dX6_plays_159 : decode cX6_plays 159 = .ok (.iastore, 1) := by decide +kernel
theorem dX6_plays_160 : decode cX6_plays 160 = .ok (.aload_n 0, 1) := by decide +kernel
theorem dX6_plays_161 : decode cX6_plays 161 = .ok (.dup, 1) := by decide +kernel
theorem dX6_plays_162 : decode cX6_plays 162 = .ok (.getfield 127, 3) := by decide +kernel
theorem dX6_plays_165 : decode cX6_plays 165 = .ok (.iconst 1, 1) := by decide +kernel
theorem dX6_plays_166 : decode cX6_plays 166 = .ok (.iadd, 1) := by decide +kernel
theorem dX6_plays_167 : decode cX6_plays 167 = .ok (.putfield 127, 3) := by decide +kernel
theorem dX6_plays_170 : decode cX6_plays 170 = .ok (.iinc 1 1, 3) := by decide +kernel
theorem dX6_plays_173 : decode cX6_plays 173 = .ok (.goto (-100), 3) := by decide +kernel
theorem dX6_plays_176 : decode cX6_plays 176 = .ok (.return_, 1) := by decide +kernel
theorem dX6_placeOf_0 : decode cX6_placeOf 0 = .ok (.iconst 0, 1) := by decide +kernel
theorem dX6_placeOf_1 : decode cX6_placeOf 1 = .ok (.istore_n 2, 1) := by decide +kernel
theorem dX6_placeOf_2 : decode cX6_placeOf 2 = .ok (.aload_n 0, 1) := by decide +kernel
theorem dX6_placeOf_3 : decode cX6_placeOf 3 = .ok (.getfield 65, 3) := by decide +kernel
theorem dX6_placeOf_6 : decode cX6_placeOf 6 = .ok (.iload_n 2, 1) := by decide +kernel
theorem dX6_placeOf_7 : decode cX6_placeOf 7 = .ok (.iaload, 1) := by decide +kernel
theorem dX6_placeOf_8 : decode cX6_placeOf 8 = .ok (.iload_n 1, 1) := by decide +kernel
theorem dX6_placeOf_9 : decode cX6_placeOf 9 = .ok (.if_icmp .eq 9, 3) := by decide +kernel
theorem dX6_placeOf_12 : decode cX6_placeOf 12 = .ok (.iinc 2 1, 3) := by decide +kernel
theorem dX6_placeOf_15 : decode cX6_placeOf 15 = .ok (.goto (-13), 3) := by decide +kernel
theorem dX6_placeOf_18 : decode cX6_placeOf 18 = .ok (.iload_n 2, 1) := by decide +kernel
theorem dX6_placeOf_19 : decode cX6_placeOf 19 = .ok (.ireturn, 1) := by decide +kernel
set_option maxRecDepth 20000 in
theorem ggX6_cueAt_X6_isIn : GoodIn wsX6_cueAt wsX6_isIn := goodIn_r _ [6] (by decide +kernel) (by decide +kernel)
set_option maxRecDepth 20000 in
theorem gX6_cueAt_X6_isIn : GoodIn wsX6_cueAt (va_wsS RX6 90 yX6_isIn wsX6_isIn) := goodIn_app (goodIn_of _ (by decide +kernel)) ggX6_cueAt_X6_isIn
set_option maxRecDepth 20000 in
theorem ggX6_cueAt_X6_isFine : GoodIn wsX6_cueAt wsX6_isFine := goodIn_r _ [10, 11, 22, 23, 24, 25, 26, 27, 28, 29, 30, 31, 32, 33, 34, 35, 36, 37, 38, 39, 40, 41, 42, 43, 44, 45, 46, 47, 48, 49, 50, 51] (by decide +kernel) (by decide +kernel)
set_option maxRecDepth 20000 in
theorem gX6_cueAt_X6_isFine : GoodIn wsX6_cueAt (wsV RX6 94 RX6 yX6_isFine wsX6_isFine) := goodIn_app (goodIn_of _ (by decide +kernel)) ggX6_cueAt_X6_isFine
set_option maxRecDepth 20000 in
theorem ggX6_cueAt_X6_orders : GoodIn wsX6_cueAt wsX6_orders := goodIn_r _ [15, 1, 2, 16, 17, 18, 5, 19, 20, 21, 22, 23, 24, 25, 26, 27, 28, 29, 30, 31, 32, 33, 34, 35, 36, 37, 38, 39, 40, 41, 42, 43, 44, 45, 46, 47, 48, 49, 50, 51] (by decide +kernel) (by decide +kernel)
set_option maxRecDepth 20000 in
theorem gX6_cueAt_X6_orders : GoodIn wsX6_cueAt (wsV RX6 124 RX6 yX6_orders wsX6_orders) := goodIn_app (goodIn_of _ (by decide +kernel)) ggX6_cueAt_X6_orders
theorem dX6_cueAt_0 : decode cX6_cueAt 0 = .ok (.aload_n 0, 1) := by decide +kernel
theorem dX6_cueAt_1 : decode cX6_cueAt 1 = .ok (.iload_n 1, 1) := by decide +kernel
theorem dX6_cueAt_2 : decode cX6_cueAt 2 = .ok (.iconst 0, 1) := by decide +kernel
theorem dX6_cueAt_3 : decode cX6_cueAt 3 = .ok (.aload_n 0, 1) := by decide +kernel
theorem dX6_cueAt_4 : decode cX6_cueAt 4 = .ok (.getfield 111, 3) := by decide +kernel
theorem dX6_cueAt_7 : decode cX6_cueAt 7 = .ok (.iconst 1, 1) := by decide +kernel
theorem dX6_cueAt_8 : decode cX6_cueAt 8 = .ok (.isub, 1) := by decide +kernel
theorem dX6_cueAt_9 : decode cX6_cueAt 9 = .ok (.invokestatic 90, 3) := by decide +kernel
theorem dX6_cueAt_12 : decode cX6_cueAt 12 = .ok (.ifCond .eq 7, 3) := by decide +kernel
theorem dX6_cueAt_15 : decode cX6_cueAt 15 = .ok (.iconst 0, 1) := by decide +kernel
theorem dX6_cueAt_16 : decode cX6_cueAt 16 = .ok (.goto 4, 3) := by decide +kernel
theorem dX6_cueAt_19 : decode cX6_cueAt 19 = .ok (.iconst 1, 1) := by decide +kernel
theorem dX6_cueAt_20 : decode cX6_cueAt 20 = .ok (.invokevirtual 94, 3) := by decide +kernel
theorem dX6_cueAt_23 : decode cX6_cueAt 23 = .ok (.ifCond .ne 5, 3) := by decide +kernel
theorem dX6_cueAt_26 : decode cX6_cueAt 26 = .ok (.iconst 0, 1) := by decide +kernel
theorem dX6_cueAt_27 : decode cX6_cueAt 27 = .ok (.ireturn, 1) := by decide +kernel
theorem dX6_cueAt_28 : decode cX6_cueAt 28 = .ok (.aload_n 0, 1) := by decide +kernel
theorem dX6_cueAt_29 : decode cX6_cueAt 29 = .ok (.invokevirtual 124, 3) := by decide +kernel
theorem dX6_cueAt_32 : decode cX6_cueAt 32 = .ok (.aload_n 0, 1) := by decide +kernel
theorem dX6_cueAt_33 : decode cX6_cueAt 33 = .ok (.getfield 65, 3) := by decide +kernel
theorem dX6_cueAt_36 : decode cX6_cueAt 36 = .ok (.iload_n 1, 1) := by decide +kernel
theorem dX6_cueAt_37 : decode cX6_cueAt 37 = .ok (.iaload, 1) := by decide +kernel
theorem dX6_cueAt_38 : decode cX6_cueAt 38 = .ok (.ireturn, 1) := by decide +kernel
set_option maxRecDepth 20000 in
theorem ggX6_timeOf_X6_isCue : GoodIn wsX6_timeOf wsX6_isCue := goodIn_r _ [7, 8, 9, 10, 6, 11, 27, 28, 29, 30, 31, 32, 33, 34, 35, 36, 37, 38, 39, 40, 41, 42, 43, 44, 45, 46, 47, 48, 49, 50, 51, 52, 53, 54, 55, 56] (by decide +kernel) (by decide +kernel)
set_option maxRecDepth 20000 in
theorem gX6_timeOf_X6_isCue : GoodIn wsX6_timeOf (wsV RX6 118 RX6 yX6_isCue wsX6_isCue) := goodIn_app (goodIn_of _ (by decide +kernel)) ggX6_timeOf_X6_isCue
set_option maxRecDepth 20000 in
theorem ggX6_timeOf_X6_isFine : GoodIn wsX6_timeOf wsX6_isFine := goodIn_r _ [15, 16, 27, 28, 29, 30, 31, 32, 33, 34, 35, 36, 37, 38, 39, 40, 41, 42, 43, 44, 45, 46, 47, 48, 49, 50, 51, 52, 53, 54, 55, 56] (by decide +kernel) (by decide +kernel)
set_option maxRecDepth 20000 in
theorem gX6_timeOf_X6_isFine : GoodIn wsX6_timeOf (wsV RX6 94 RX6 yX6_isFine wsX6_isFine) := goodIn_app (goodIn_of _ (by decide +kernel)) ggX6_timeOf_X6_isFine
set_option maxRecDepth 20000 in
theorem ggX6_timeOf_X6_isPlayed : GoodIn wsX6_timeOf wsX6_isPlayed := goodIn_r _ [20, 21, 1, 27, 28, 29, 30, 31, 32, 33, 34, 35, 36, 37, 38, 39, 40, 41, 42, 43, 44, 45, 46, 47, 48, 49, 50, 51, 52, 53, 54, 55, 56] (by decide +kernel) (by decide +kernel)
set_option maxRecDepth 20000 in
theorem gX6_timeOf_X6_isPlayed : GoodIn wsX6_timeOf (wsV RX6 130 RX6 yX6_isPlayed wsX6_isPlayed) := goodIn_app (goodIn_of _ (by decide +kernel)) ggX6_timeOf_X6_isPlayed
set_option maxRecDepth 20000 in
theorem ggX6_timeOf_X6_ahead : GoodIn wsX6_timeOf wsX6_ahead := goodIn_r _ [25, 21, 26, 27, 28, 29, 30, 31, 32, 33, 34, 35, 36, 37, 38, 39, 40, 41, 42, 43, 44, 45, 46, 47, 48, 49, 50, 51, 52, 53, 54, 55, 56] (by decide +kernel) (by decide +kernel)
set_option maxRecDepth 20000 in
theorem gX6_timeOf_X6_ahead : GoodIn wsX6_timeOf (wsV RX6 104 RX6 yX6_ahead wsX6_ahead) := goodIn_app (goodIn_of _ (by decide +kernel)) ggX6_timeOf_X6_ahead
theorem dX6_timeOf_0 : decode cX6_timeOf 0 = .ok (.aload_n 0, 1) := by decide +kernel
theorem dX6_timeOf_1 : decode cX6_timeOf 1 = .ok (.aload_n 0, 1) := by decide +kernel
theorem dX6_timeOf_2 : decode cX6_timeOf 2 = .ok (.iload_n 1, 1) := by decide +kernel
theorem dX6_timeOf_3 : decode cX6_timeOf 3 = .ok (.invokevirtual 118, 3) := by decide +kernel
theorem dX6_timeOf_6 : decode cX6_timeOf 6 = .ok (.ifCond .eq 7, 3) := by decide +kernel
theorem dX6_timeOf_9 : decode cX6_timeOf 9 = .ok (.iconst 0, 1) := by decide +kernel
theorem dX6_timeOf_10 : decode cX6_timeOf 10 = .ok (.goto 4, 3) := by decide +kernel
theorem dX6_timeOf_13 : decode cX6_timeOf 13 = .ok (.iconst 1, 1) := by decide +kernel
theorem dX6_timeOf_14 : decode cX6_timeOf 14 = .ok (.invokevirtual 94, 3) := by decide +kernel
theorem dX6_timeOf_17 : decode cX6_timeOf 17 = .ok (.ifCond .ne 5, 3) := by decide +kernel
theorem dX6_timeOf_20 : decode cX6_timeOf 20 = .ok (.iconst 0, 1) := by decide +kernel
theorem dX6_timeOf_21 : decode cX6_timeOf 21 = .ok (.ireturn, 1) := by decide +kernel
theorem dX6_timeOf_22 : decode cX6_timeOf 22 = .ok (.aload_n 0, 1) := by decide +kernel
theorem dX6_timeOf_23 : decode cX6_timeOf 23 = .ok (.iload_n 1, 1) := by decide +kernel
theorem dX6_timeOf_24 : decode cX6_timeOf 24 = .ok (.invokevirtual 130, 3) := by decide +kernel
theorem dX6_timeOf_27 : decode cX6_timeOf 27 = .ok (.ifCond .eq 23, 3) := by decide +kernel
theorem dX6_timeOf_30 : decode cX6_timeOf 30 = .ok (.aload_n 0, 1) := by decide +kernel
theorem dX6_timeOf_31 : decode cX6_timeOf 31 = .ok (.aload_n 0, 1) := by decide +kernel
theorem dX6_timeOf_32 : decode cX6_timeOf 32 = .ok (.getfield 26, 3) := by decide +kernel
theorem dX6_timeOf_35 : decode cX6_timeOf 35 = .ok (.iload_n 1, 1) := by decide +kernel
theorem dX6_timeOf_36 : decode cX6_timeOf 36 = .ok (.iaload, 1) := by decide +kernel
theorem dX6_timeOf_37 : decode cX6_timeOf 37 = .ok (.invokevirtual 104, 3) := by decide +kernel
theorem dX6_timeOf_40 : decode cX6_timeOf 40 = .ok (.aload_n 0, 1) := by decide +kernel
theorem dX6_timeOf_41 : decode cX6_timeOf 41 = .ok (.getfield 29, 3) := by decide +kernel
theorem dX6_timeOf_44 : decode cX6_timeOf 44 = .ok (.iload_n 1, 1) := by decide +kernel
theorem dX6_timeOf_45 : decode cX6_timeOf 45 = .ok (.iaload, 1) := by decide +kernel
theorem dX6_timeOf_46 : decode cX6_timeOf 46 = .ok (.iadd, 1) := by decide +kernel
theorem dX6_timeOf_47 : decode cX6_timeOf 47 = .ok (.goto 4, 3) := by decide +kernel
theorem dX6_timeOf_50 : decode cX6_timeOf 50 = .ok (.iconst (-1), 1) := by decide +kernel
theorem dX6_timeOf_51 : decode cX6_timeOf 51 = .ok (.ireturn, 1) := by decide +kernel
set_option maxRecDepth 20000 in
theorem ggX6_foldedInto_X6_isCue : GoodIn wsX6_foldedInto wsX6_isCue := goodIn_r _ [7, 1, 8, 9, 6, 10, 35, 36, 37, 38, 39, 40, 41, 42, 43, 44, 45, 46, 47, 48, 49, 50, 51, 52, 53, 54, 55, 56, 57, 58, 59, 60, 61, 62, 63, 64] (by decide +kernel) (by decide +kernel)
set_option maxRecDepth 20000 in
theorem gX6_foldedInto_X6_isCue : GoodIn wsX6_foldedInto (wsV RX6 118 RX6 yX6_isCue wsX6_isCue) := goodIn_app (goodIn_of _ (by decide +kernel)) ggX6_foldedInto_X6_isCue
set_option maxRecDepth 20000 in
theorem ggX6_foldedInto_X6_isFine : GoodIn wsX6_foldedInto wsX6_isFine := goodIn_r _ [14, 15, 35, 36, 37, 38, 39, 40, 41, 42, 43, 44, 45, 46, 47, 48, 49, 50, 51, 52, 53, 54, 55, 56, 57, 58, 59, 60, 61, 62, 63, 64] (by decide +kernel) (by decide +kernel)
set_option maxRecDepth 20000 in
theorem gX6_foldedInto_X6_isFine : GoodIn wsX6_foldedInto (wsV RX6 94 RX6 yX6_isFine wsX6_isFine) := goodIn_app (goodIn_of _ (by decide +kernel)) ggX6_foldedInto_X6_isFine
set_option maxRecDepth 20000 in
theorem ggX6_foldedInto_X6_orders : GoodIn wsX6_foldedInto wsX6_orders := goodIn_r _ [19, 1, 2, 20, 21, 22, 6, 23, 24, 25, 35, 36, 37, 38, 39, 40, 41, 42, 43, 44, 45, 46, 47, 48, 49, 50, 51, 52, 53, 54, 55, 56, 57, 58, 59, 60, 61, 62, 63, 64] (by decide +kernel) (by decide +kernel)
set_option maxRecDepth 20000 in
theorem gX6_foldedInto_X6_orders : GoodIn wsX6_foldedInto (wsV RX6 124 RX6 yX6_orders wsX6_orders) := goodIn_app (goodIn_of _ (by decide +kernel)) ggX6_foldedInto_X6_orders
set_option maxRecDepth 20000 in
theorem ggX6_foldedInto_X6_placeOf : GoodIn wsX6_foldedInto wsX6_placeOf := goodIn_r _ [29, 2, 35, 36, 37, 38, 39, 40, 41, 42, 43, 44, 45, 46, 47, 48, 49, 50, 51, 52, 53, 54, 55, 56, 57, 58, 59, 60, 61, 62, 63, 64] (by decide +kernel) (by decide +kernel)
set_option maxRecDepth 20000 in
theorem gX6_foldedInto_X6_placeOf : GoodIn wsX6_foldedInto (wsV RX6 136 RX6 yX6_placeOf wsX6_placeOf) := goodIn_app (goodIn_of _ (by decide +kernel)) ggX6_foldedInto_X6_placeOf
set_option maxRecDepth 20000 in
theorem ggX6_foldedInto_X6_isPlayed : GoodIn wsX6_foldedInto wsX6_isPlayed := goodIn_r _ [33, 34, 24, 35, 36, 37, 38, 39, 40, 41, 42, 43, 44, 45, 46, 47, 48, 49, 50, 51, 52, 53, 54, 55, 56, 57, 58, 59, 60, 61, 62, 63, 64] (by decide +kernel) (by decide +kernel)
set_option maxRecDepth 20000 in
theorem gX6_foldedInto_X6_isPlayed : GoodIn wsX6_foldedInto (wsV RX6 130 RX6 yX6_isPlayed wsX6_isPlayed) := goodIn_app (goodIn_of _ (by decide +kernel)) ggX6_foldedInto_X6_isPlayed
theorem dX6_foldedInto_0 : decode cX6_foldedInto 0 = .ok (.aload_n 0, 1) := by decide +kernel
theorem dX6_foldedInto_1 : decode cX6_foldedInto 1 = .ok (.aload_n 0, 1) := by decide +kernel
theorem dX6_foldedInto_2 : decode cX6_foldedInto 2 = .ok (.iload_n 1, 1) := by decide +kernel
theorem dX6_foldedInto_3 : decode cX6_foldedInto 3 = .ok (.invokevirtual 118, 3) := by decide +kernel
theorem dX6_foldedInto_6 : decode cX6_foldedInto 6 = .ok (.ifCond .eq 7, 3) := by decide +kernel
theorem dX6_foldedInto_9 : decode cX6_foldedInto 9 = .ok (.iconst 0, 1) := by decide +kernel
theorem dX6_foldedInto_10 : decode cX6_foldedInto 10 = .ok (.goto 4, 3) := by decide +kernel
theorem dX6_foldedInto_13 : decode cX6_foldedInto 13 = .ok (.iconst 1, 1) := by decide +kernel
theorem dX6_foldedInto_14 : decode cX6_foldedInto 14 = .ok (.invokevirtual 94, 3) := by decide +kernel
theorem dX6_foldedInto_17 : decode cX6_foldedInto 17 = .ok (.ifCond .ne 5, 3) := by decide +kernel
theorem dX6_foldedInto_20 : decode cX6_foldedInto 20 = .ok (.iconst 0, 1) := by decide +kernel
theorem dX6_foldedInto_21 : decode cX6_foldedInto 21 = .ok (.ireturn, 1) := by decide +kernel
theorem dX6_foldedInto_22 : decode cX6_foldedInto 22 = .ok (.aload_n 0, 1) := by decide +kernel
theorem dX6_foldedInto_23 : decode cX6_foldedInto 23 = .ok (.invokevirtual 124, 3) := by decide +kernel
theorem dX6_foldedInto_26 : decode cX6_foldedInto 26 = .ok (.aload_n 0, 1) := by decide +kernel
theorem dX6_foldedInto_27 : decode cX6_foldedInto 27 = .ok (.iload_n 1, 1) := by decide +kernel
theorem dX6_foldedInto_28 : decode cX6_foldedInto 28 = .ok (.invokevirtual 136, 3) := by decide +kernel
theorem dX6_foldedInto_31 : decode cX6_foldedInto 31 = .ok (.istore_n 2, 1) := by decide +kernel
theorem dX6_foldedInto_32 : decode cX6_foldedInto 32 = .ok (.iload_n 2, 1) := by decide +kernel
theorem dX6_foldedInto_33 : decode cX6_foldedInto 33 = .ok (.aload_n 0, 1) := by decide +kernel
theorem dX6_foldedInto_34 : decode cX6_foldedInto 34 = .ok (.getfield 111, 3) := by decide +kernel
theorem dX6_foldedInto_37 : decode cX6_foldedInto 37 = .ok (.if_icmp .ge 22, 3) := by decide +kernel
theorem dX6_foldedInto_40 : decode cX6_foldedInto 40 = .ok (.aload_n 0, 1) := by decide +kernel
theorem dX6_foldedInto_41 : decode cX6_foldedInto 41 = .ok (.aload_n 0, 1) := by decide +kernel
theorem dX6_foldedInto_42 : decode cX6_foldedInto 42 = .ok (.getfield 65, 3) := by decide +kernel
theorem dX6_foldedInto_45 : decode cX6_foldedInto 45 = .ok (.iload_n 2, 1) := by decide +kernel
theorem dX6_foldedInto_46 : decode cX6_foldedInto 46 = .ok (.iaload, 1) := by decide +kernel
theorem dX6_foldedInto_47 : decode cX6_foldedInto 47 = .ok (.invokevirtual 130, 3) := by decide +kernel
theorem dX6_foldedInto_50 : decode cX6_foldedInto 50 = .ok (.ifCond .ne 9, 3) := by decide +kernel
theorem dX6_foldedInto_53 : decode cX6_foldedInto 53 = .ok (.iinc 2 1, 3) := by decide +kernel
theorem dX6_foldedInto_56 : decode cX6_foldedInto 56 = .ok (.goto (-24), 3) := by decide +kernel
theorem dX6_foldedInto_59 : decode cX6_foldedInto 59 = .ok (.iload_n 2, 1) := by decide +kernel
theorem dX6_foldedInto_60 : decode cX6_foldedInto 60 = .ok (.aload_n 0, 1) := by decide +kernel
theorem dX6_foldedInto_61 : decode cX6_foldedInto 61 = .ok (.getfield 111, 3) := by decide +kernel
theorem dX6_foldedInto_64 : decode cX6_foldedInto 64 = .ok (.if_icmp .ge 12, 3) := by decide +kernel
theorem dX6_foldedInto_67 : decode cX6_foldedInto 67 = .ok (.aload_n 0, 1) := by decide +kernel
theorem dX6_foldedInto_68 : decode cX6_foldedInto 68 = .ok (.getfield 65, 3) := by decide +kernel
theorem dX6_foldedInto_71 : decode cX6_foldedInto 71 = .ok (.iload_n 2, 1) := by decide +kernel
theorem dX6_foldedInto_72 : decode cX6_foldedInto 72 = .ok (.iaload, 1) := by decide +kernel
theorem dX6_foldedInto_73 : decode cX6_foldedInto 73 = .ok (.goto 4, 3) := by decide +kernel
theorem dX6_foldedInto_76 : decode cX6_foldedInto 76 = .ok (.iconst (-1), 1) := by decide +kernel
theorem dX6_foldedInto_77 : decode cX6_foldedInto 77 = .ok (.ireturn, 1) := by decide +kernel
set_option maxRecDepth 20000 in
theorem ggX6_changesAt_X6_isPlayed : GoodIn wsX6_changesAt wsX6_isPlayed := goodIn_r _ [7, 8, 9, 10, 11, 12, 13, 14, 15, 16, 17, 18, 19, 20, 21, 22, 23, 24, 25, 26, 27, 28, 29, 30, 31, 32, 33, 34, 35, 36, 37, 38, 39] (by decide +kernel) (by decide +kernel)
set_option maxRecDepth 20000 in
theorem gX6_changesAt_X6_isPlayed : GoodIn wsX6_changesAt (wsV RX6 130 RX6 yX6_isPlayed wsX6_isPlayed) := goodIn_app (goodIn_of _ (by decide +kernel)) ggX6_changesAt_X6_isPlayed
theorem dX6_changesAt_0 : decode cX6_changesAt 0 = .ok (.aload_n 0, 1) := by decide +kernel
theorem dX6_changesAt_1 : decode cX6_changesAt 1 = .ok (.getfield 35, 3) := by decide +kernel
theorem dX6_changesAt_4 : decode cX6_changesAt 4 = .ok (.bipush 10, 2) := by decide +kernel
theorem dX6_changesAt_6 : decode cX6_changesAt 6 = .ok (.aload_n 0, 1) := by decide +kernel
theorem dX6_changesAt_7 : decode cX6_changesAt 7 = .ok (.getfield 65, 3) := by decide +kernel
theorem dX6_changesAt_10 : decode cX6_changesAt 10 = .ok (.iload_n 1, 1) := by decide +kernel
theorem dX6_changesAt_11 : decode cX6_changesAt 11 = .ok (.iaload, 1) := by decide +kernel
theorem dX6_changesAt_12 : decode cX6_changesAt 12 = .ok (.imul, 1) := by decide +kernel
theorem dX6_changesAt_13 : decode cX6_changesAt 13 = .ok (.iload_n 2, 1) := by decide +kernel
theorem dX6_changesAt_14 : decode cX6_changesAt 14 = .ok (.iadd, 1) := by decide +kernel
theorem dX6_changesAt_15 : decode cX6_changesAt 15 = .ok (.iaload, 1) := by decide +kernel
theorem dX6_changesAt_16 : decode cX6_changesAt 16 = .ok (.istore_n 3, 1) := by decide +kernel
theorem dX6_changesAt_17 : decode cX6_changesAt 17 = .ok (.iload_n 1, 1) := by decide +kernel
theorem dX6_changesAt_18 : decode cX6_changesAt 18 = .ok (.iconst 1, 1) := by decide +kernel
theorem dX6_changesAt_19 : decode cX6_changesAt 19 = .ok (.isub, 1) := by decide +kernel
theorem dX6_changesAt_20 : decode cX6_changesAt 20 = .ok (.istore 4, 2) := by decide +kernel
theorem dX6_changesAt_22 : decode cX6_changesAt 22 = .ok (.iload 4, 2) := by decide +kernel
theorem dX6_changesAt_24 : decode cX6_changesAt 24 = .ok (.ifCond .lt 46, 3) := by decide +kernel
theorem dX6_changesAt_27 : decode cX6_changesAt 27 = .ok (.aload_n 0, 1) := by decide +kernel
theorem dX6_changesAt_28 : decode cX6_changesAt 28 = .ok (.aload_n 0, 1) := by decide +kernel
theorem dX6_changesAt_29 : decode cX6_changesAt 29 = .ok (.getfield 65, 3) := by decide +kernel
theorem dX6_changesAt_32 : decode cX6_changesAt 32 = .ok (.iload 4, 2) := by decide +kernel
theorem dX6_changesAt_34 : decode cX6_changesAt 34 = .ok (.iaload, 1) := by decide +kernel
theorem dX6_changesAt_35 : decode cX6_changesAt 35 = .ok (.invokevirtual 130, 3) := by decide +kernel
theorem dX6_changesAt_38 : decode cX6_changesAt 38 = .ok (.ifCond .ne 32, 3) := by decide +kernel
theorem dX6_changesAt_41 : decode cX6_changesAt 41 = .ok (.iload_n 3, 1) := by decide +kernel
theorem dX6_changesAt_42 : decode cX6_changesAt 42 = .ok (.iconst (-1), 1) := by decide +kernel
theorem dX6_changesAt_43 : decode cX6_changesAt 43 = .ok (.if_icmp .ne 27, 3) := by decide +kernel
theorem dX6_changesAt_46 : decode cX6_changesAt 46 = .ok (.aload_n 0, 1) := by decide +kernel
theorem dX6_changesAt_47 : decode cX6_changesAt 47 = .ok (.getfield 35, 3) := by decide +kernel
theorem dX6_changesAt_50 : decode cX6_changesAt 50 = .ok (.bipush 10, 2) := by decide +kernel
theorem dX6_changesAt_52 : decode cX6_changesAt 52 = .ok (.aload_n 0, 1) := by decide +kernel
theorem dX6_changesAt_53 : decode cX6_changesAt 53 = .ok (.getfield 65, 3) := by decide +kernel
theorem dX6_changesAt_56 : decode cX6_changesAt 56 = .ok (.iload 4, 2) := by decide +kernel
theorem dX6_changesAt_58 : decode cX6_changesAt 58 = .ok (.iaload, 1) := by decide +kernel
theorem dX6_changesAt_59 : decode cX6_changesAt 59 = .ok (.imul, 1) := by decide +kernel
theorem dX6_changesAt_60 : decode cX6_changesAt 60 = .ok (.iload_n 2, 1) := by decide +kernel
theorem dX6_changesAt_61 : decode cX6_changesAt 61 = .ok (.iadd, 1) := by decide +kernel
theorem dX6_changesAt_62 : decode cX6_changesAt 62 = .ok (.iaload, 1) := by decide +kernel
theorem dX6_changesAt_63 : decode cX6_changesAt 63 = .ok (.istore_n 3, 1) := by decide +kernel
theorem dX6_changesAt_64 : decode cX6_changesAt 64 = .ok (.iinc 4 (-1), 3) := by decide +kernel
theorem dX6_changesAt_67 : decode cX6_changesAt 67 = .ok (.goto (-45), 3) := by decide +kernel
theorem dX6_changesAt_70 : decode cX6_changesAt 70 = .ok (.iload_n 3, 1) := by decide +kernel
theorem dX6_changesAt_71 : decode cX6_changesAt 71 = .ok (.ireturn, 1) := by decide +kernel
set_option maxRecDepth 20000 in
theorem ggX6_changes_X6_isCue : GoodIn wsX6_changes wsX6_isCue := goodIn_r _ [5, 6, 7, 8, 4, 9, 43, 44, 45, 46, 47, 48, 49, 50, 51, 52, 53, 54, 55, 56, 57, 58, 59, 60, 61, 62, 63, 64, 65, 66, 67, 68, 69, 70, 71, 72] (by decide +kernel) (by decide +kernel)
set_option maxRecDepth 20000 in
theorem gX6_changes_X6_isCue : GoodIn wsX6_changes (wsV RX6 118 RX6 yX6_isCue wsX6_isCue) := goodIn_app (goodIn_of _ (by decide +kernel)) ggX6_changes_X6_isCue
set_option maxRecDepth 20000 in
theorem ggX6_changes_X6_isChannel : GoodIn wsX6_changes wsX6_isChannel := goodIn_r _ [12, 7, 8, 4, 9] (by decide +kernel) (by decide +kernel)
set_option maxRecDepth 20000 in
theorem gX6_changes_X6_isChannel : GoodIn wsX6_changes (va_wsS RX6 108 yX6_isChannel wsX6_isChannel) := goodIn_app (goodIn_of _ (by decide +kernel)) ggX6_changes_X6_isChannel
set_option maxRecDepth 20000 in
theorem ggX6_changes_X6_isFine : GoodIn wsX6_changes wsX6_isFine := goodIn_r _ [16, 17, 43, 44, 45, 46, 47, 48, 49, 50, 51, 52, 53, 54, 55, 56, 57, 58, 59, 60, 61, 62, 63, 64, 65, 66, 67, 68, 69, 70, 71, 72] (by decide +kernel) (by decide +kernel)
set_option maxRecDepth 20000 in
theorem gX6_changes_X6_isFine : GoodIn wsX6_changes (wsV RX6 94 RX6 yX6_isFine wsX6_isFine) := goodIn_app (goodIn_of _ (by decide +kernel)) ggX6_changes_X6_isFine
set_option maxRecDepth 20000 in
theorem ggX6_changes_X6_orders : GoodIn wsX6_changes wsX6_orders := goodIn_r _ [21, 6, 22, 23, 24, 25, 4, 26, 27, 28, 43, 44, 45, 46, 47, 48, 49, 50, 51, 52, 53, 54, 55, 56, 57, 58, 59, 60, 61, 62, 63, 64, 65, 66, 67, 68, 69, 70, 71, 72] (by decide +kernel) (by decide +kernel)
set_option maxRecDepth 20000 in
theorem gX6_changes_X6_orders : GoodIn wsX6_changes (wsV RX6 124 RX6 yX6_orders wsX6_orders) := goodIn_app (goodIn_of _ (by decide +kernel)) ggX6_changes_X6_orders
set_option maxRecDepth 20000 in
theorem ggX6_changes_X6_isPlayed : GoodIn wsX6_changes wsX6_isPlayed := goodIn_r _ [32, 33, 27, 43, 44, 45, 46, 47, 48, 49, 50, 51, 52, 53, 54, 55, 56, 57, 58, 59, 60, 61, 62, 63, 64, 65, 66, 67, 68, 69, 70, 71, 72] (by decide +kernel) (by decide +kernel)
set_option maxRecDepth 20000 in
theorem gX6_changes_X6_isPlayed : GoodIn wsX6_changes (wsV RX6 130 RX6 yX6_isPlayed wsX6_isPlayed) := goodIn_app (goodIn_of _ (by decide +kernel)) ggX6_changes_X6_isPlayed
set_option maxRecDepth 20000 in
theorem ggX6_changes_X6_placeOf : GoodIn wsX6_changes wsX6_placeOf := goodIn_r _ [37, 22, 43, 44, 45, 46, 47, 48, 49, 50, 51, 52, 53, 54, 55, 56, 57, 58, 59, 60, 61, 62, 63, 64, 65, 66, 67, 68, 69, 70, 71, 72] (by decide +kernel) (by decide +kernel)
set_option maxRecDepth 20000 in
theorem gX6_changes_X6_placeOf : GoodIn wsX6_changes (wsV RX6 136 RX6 yX6_placeOf wsX6_placeOf) := goodIn_app (goodIn_of _ (by decide +kernel)) ggX6_changes_X6_placeOf
set_option maxRecDepth 20000 in
theorem ggX6_changes_X6_changesAt : GoodIn wsX6_changes wsX6_changesAt := goodIn_r _ [41, 42, 22, 29, 30, 31, 4, 32, 33, 27, 43, 44, 45, 46, 47, 48, 49, 50, 51, 52, 53, 54, 55, 56, 57, 58, 59, 60, 61, 62, 63, 64, 65, 66, 67, 68, 69, 70, 71, 72] (by decide +kernel) (by decide +kernel)
set_option maxRecDepth 20000 in
theorem gX6_changes_X6_changesAt : GoodIn wsX6_changes (wsV RX6 139 RX6 yX6_changesAt wsX6_changesAt) := goodIn_app (goodIn_of _ (by decide +kernel)) ggX6_changes_X6_changesAt
theorem dX6_changes_0 : decode cX6_changes 0 = .ok (.aload_n 0, 1) := by decide +kernel
theorem dX6_changes_1 : decode cX6_changes 1 = .ok (.aload_n 0, 1) := by decide +kernel
theorem dX6_changes_2 : decode cX6_changes 2 = .ok (.iload_n 1, 1) := by decide +kernel
theorem dX6_changes_3 : decode cX6_changes 3 = .ok (.invokevirtual 118, 3) := by decide +kernel
theorem dX6_changes_6 : decode cX6_changes 6 = .ok (.ifCond .eq 14, 3) := by decide +kernel
theorem dX6_changes_9 : decode cX6_changes 9 = .ok (.iload_n 2, 1) := by decide +kernel
theorem dX6_changes_10 : decode cX6_changes 10 = .ok (.invokestatic 108, 3) := by decide +kernel
theorem dX6_changes_13 : decode cX6_changes 13 = .ok (.ifCond .eq 7, 3) := by decide +kernel
theorem dX6_changes_16 : decode cX6_changes 16 = .ok (.iconst 0, 1) := by decide +kernel
theorem dX6_changes_17 : decode cX6_changes 17 = .ok (.goto 4, 3) := by decide +kernel
theorem dX6_changes_20 : decode cX6_changes 20 = .ok (.iconst 1, 1) := by decide +kernel
theorem dX6_changes_21 : decode cX6_changes 21 = .ok (.invokevirtual 94, 3) := by decide +kernel
theorem dX6_changes_24 : decode cX6_changes 24 = .ok (.ifCond .ne 5, 3) := by decide +kernel
theorem dX6_changes_27 : decode cX6_changes 27 = .ok (.iconst 0, 1) := by decide +kernel
theorem dX6_changes_28 : decode cX6_changes 28 = .ok (.ireturn, 1) := by decide +kernel
theorem dX6_changes_29 : decode cX6_changes 29 = .ok (.aload_n 0, 1) := by decide +kernel
theorem dX6_changes_30 : decode cX6_changes 30 = .ok (.invokevirtual 124, 3) := by decide +kernel
theorem dX6_changes_33 : decode cX6_changes 33 = .ok (.aload_n 0, 1) := by decide +kernel
theorem dX6_changes_34 : decode cX6_changes 34 = .ok (.iload_n 1, 1) := by decide +kernel
theorem dX6_changes_35 : decode cX6_changes 35 = .ok (.invokevirtual 130, 3) := by decide +kernel
theorem dX6_changes_38 : decode cX6_changes 38 = .ok (.ifCond .eq 16, 3) := by decide +kernel
theorem dX6_changes_41 : decode cX6_changes 41 = .ok (.aload_n 0, 1) := by decide +kernel
theorem dX6_changes_42 : decode cX6_changes 42 = .ok (.aload_n 0, 1) := by decide +kernel
theorem dX6_changes_43 : decode cX6_changes 43 = .ok (.iload_n 1, 1) := by decide +kernel
theorem dX6_changes_44 : decode cX6_changes 44 = .ok (.invokevirtual 136, 3) := by decide +kernel
theorem dX6_changes_47 : decode cX6_changes 47 = .ok (.iload_n 2, 1) := by decide +kernel
theorem dX6_changes_48 : decode cX6_changes 48 = .ok (.invokevirtual 139, 3) := by decide +kernel
theorem dX6_changes_51 : decode cX6_changes 51 = .ok (.goto 4, 3) := by decide +kernel
theorem dX6_changes_54 : decode cX6_changes 54 = .ok (.iconst (-1), 1) := by decide +kernel
theorem dX6_changes_55 : decode cX6_changes 55 = .ok (.ireturn, 1) := by decide +kernel
theorem dX6_behind_0 : decode cX6_behind 0 = .ok (.iload_n 2, 1) := by decide +kernel
theorem dX6_behind_1 : decode cX6_behind 1 = .ok (.iload_n 3, 1) := by decide +kernel
theorem dX6_behind_2 : decode cX6_behind 2 = .ok (.if_icmp .lt 7, 3) := by decide +kernel
theorem dX6_behind_5 : decode cX6_behind 5 = .ok (.iload_n 1, 1) := by decide +kernel
theorem dX6_behind_6 : decode cX6_behind 6 = .ok (.goto 12, 3) := by decide +kernel
theorem dX6_behind_9 : decode cX6_behind 9 = .ok (.iload_n 0, 1) := by decide +kernel
theorem dX6_behind_10 : decode cX6_behind 10 = .ok (.iload_n 1, 1) := by decide +kernel
theorem dX6_behind_11 : decode cX6_behind 11 = .ok (.iload_n 0, 1) := by decide +kernel
theorem dX6_behind_12 : decode cX6_behind 12 = .ok (.isub, 1) := by decide +kernel
theorem dX6_behind_13 : decode cX6_behind 13 = .ok (.iload_n 2, 1) := by decide +kernel
theorem dX6_behind_14 : decode cX6_behind 14 = .ok (.imul, 1) := by decide +kernel
theorem dX6_behind_15 : decode cX6_behind 15 = .ok (.iload_n 3, 1) := by decide +kernel
theorem dX6_behind_16 : decode cX6_behind 16 = .ok (.idiv, 1) := by decide +kernel
theorem dX6_behind_17 : decode cX6_behind 17 = .ok (.iadd, 1) := by decide +kernel
theorem dX6_behind_18 : decode cX6_behind 18 = .ok (.ireturn, 1) := by decide +kernel
set_option maxRecDepth 20000 in
theorem ggX6_level_X6_when : GoodIn wsX6_level wsX6_when := goodIn_r _ [9, 10, 11, 12, 26, 27, 28, 29, 30, 31, 32, 33, 34, 35, 36, 37, 38, 39, 40, 41, 42, 43, 44, 45, 46, 47, 48, 49, 50, 51, 52, 53, 54, 55] (by decide +kernel) (by decide +kernel)
set_option maxRecDepth 20000 in
theorem gX6_level_X6_when : GoodIn wsX6_level (wsV RX6 133 RX6 yX6_when wsX6_when) := goodIn_app (goodIn_of _ (by decide +kernel)) ggX6_level_X6_when
set_option maxRecDepth 20000 in
theorem ggX6_level_X6_changesAt : GoodIn wsX6_level wsX6_changesAt := goodIn_r _ [16, 17, 2, 18, 19, 20, 8, 21, 22, 11, 26, 27, 28, 29, 30, 31, 32, 33, 34, 35, 36, 37, 38, 39, 40, 41, 42, 43, 44, 45, 46, 47, 48, 49, 50, 51, 52, 53, 54, 55] (by decide +kernel) (by decide +kernel)
set_option maxRecDepth 20000 in
theorem gX6_level_X6_changesAt : GoodIn wsX6_level (wsV RX6 139 RX6 yX6_changesAt wsX6_changesAt) := goodIn_app (goodIn_of _ (by decide +kernel)) ggX6_level_X6_changesAt
set_option maxRecDepth 20000 in
theorem ggX6_level_X6_behind : GoodIn wsX6_level wsX6_behind := goodIn_r _ [25] (by decide +kernel) (by decide +kernel)
set_option maxRecDepth 20000 in
theorem gX6_level_X6_behind : GoodIn wsX6_level (va_wsS RX6 143 yX6_behind wsX6_behind) := goodIn_app (goodIn_of _ (by decide +kernel)) ggX6_level_X6_behind
