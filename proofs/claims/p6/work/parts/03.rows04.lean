theorem dX12_rule_161 : decode cX12_rule 161 = .ok (.iload_n 1, 1) := by decide +kernel
theorem dX12_rule_162 : decode cX12_rule 162 = .ok (.iaload, 1) := by decide +kernel
theorem dX12_rule_163 : decode cX12_rule 163 = .ok (.iastore, 1) := by decide +kernel
theorem dX12_rule_164 : decode cX12_rule 164 = .ok (.iload 4, 2) := by decide +kernel
theorem dX12_rule_166 : decode cX12_rule 166 = .ok (.ireturn, 1) := by decide +kernel
set_option maxRecDepth 100000 in
theorem ggX12_loads_X12_noCylinder : GoodIn wsX12_loads wsX12_noCylinder := goodIn_s _ [14, 15, 16, 12, 34, 35, 36, 37, 38, 39, 40, 41, 42, 43, 44, 45, 46, 47, 48, 49, 50, 51, 52, 53, 54, 55, 56, 57, 58, 59, 60, 61, 62, 63, 64, 65, 66, 67, 68, 69, 70, 71, 72, 73, 74, 75, 76, 77, 78, 79, 80, 81, 82, 83, 84, 85, 86, 87, 88, 89, 90, 91, 92, 93, 94, 95, 96, 97, 98, 99] [13, 17] (by decide +kernel) rfl (by decide +kernel)
set_option maxRecDepth 20000 in
theorem gX12_loads_X12_noCylinder : GoodIn wsX12_loads (wsV RX12 189 RX12 yX12_noCylinder wsX12_noCylinder) := goodIn_app (goodIn_of _ (by decide +kernel)) ggX12_loads_X12_noCylinder
set_option maxRecDepth 100000 in
theorem ggX12_loads_X12_noSheet : GoodIn wsX12_loads wsX12_noSheet := goodIn_s _ [21, 15, 16, 12] [20, 17] (by decide +kernel) rfl (by decide +kernel)
set_option maxRecDepth 20000 in
theorem gX12_loads_X12_noSheet : GoodIn wsX12_loads (va_wsS RX12 154 yX12_noSheet wsX12_noSheet) := goodIn_app (goodIn_of _ (by decide +kernel)) ggX12_loads_X12_noSheet
set_option maxRecDepth 100000 in
theorem ggX12_loads_X12_refused : GoodIn wsX12_loads wsX12_refused := goodIn_s _ [26, 34, 35, 36, 37, 38, 39, 40, 41, 42, 43, 44, 45, 46, 47, 48, 49, 50, 51, 52, 53, 54, 55, 56, 57, 58, 59, 60, 61, 62, 63, 64, 65, 66, 67, 68, 69, 70, 71, 72, 73, 74, 75, 76, 77, 78, 79, 80, 81, 82, 83, 84, 85, 86, 87, 88, 89, 90, 91, 92, 93, 94, 95, 96, 97, 98, 99] [25] (by decide +kernel) rfl (by decide +kernel)
set_option maxRecDepth 20000 in
theorem gX12_loads_X12_refused : GoodIn wsX12_loads (wsV RX12 158 RX12 yX12_refused wsX12_refused) := goodIn_app (goodIn_of _ (by decide +kernel)) ggX12_loads_X12_refused
set_option maxRecDepth 100000 in
theorem ggX12_loads_X12_in : GoodIn wsX12_loads wsX12_in := goodIn_s _ [] [17] (by decide +kernel) rfl (by decide +kernel)
set_option maxRecDepth 20000 in
theorem gX12_loads_X12_in : GoodIn wsX12_loads (va_wsS RX12 150 yX12_in wsX12_in) := goodIn_app (goodIn_of _ (by decide +kernel)) ggX12_loads_X12_in
set_option maxRecDepth 100000 in
theorem ggX12_loads_X12_failed : GoodIn wsX12_loads wsX12_failed := goodIn_s _ [26, 34, 35, 36, 37, 38, 39, 40, 41, 42, 43, 44, 45, 46, 47, 48, 49, 50, 51, 52, 53, 54, 55, 56, 57, 58, 59, 60, 61, 62, 63, 64, 65, 66, 67, 68, 69, 70, 71, 72, 73, 74, 75, 76, 77, 78, 79, 80, 81, 82, 83, 84, 85, 86, 87, 88, 89, 90, 91, 92, 93, 94, 95, 96, 97, 98, 99] [30] (by decide +kernel) rfl (by decide +kernel)
set_option maxRecDepth 20000 in
theorem gX12_loads_X12_failed : GoodIn wsX12_loads (wsV RX12 164 RX12 yX12_failed wsX12_failed) := goodIn_app (goodIn_of _ (by decide +kernel)) ggX12_loads_X12_failed
set_option maxRecDepth 100000 in
theorem ggX12_loads_X12_isBeyond : GoodIn wsX12_loads wsX12_isBeyond := goodIn_s _ [] [33] (by decide +kernel) rfl (by decide +kernel)
set_option maxRecDepth 20000 in
theorem gX12_loads_X12_isBeyond : GoodIn wsX12_loads (va_wsS RX12 175 yX12_isBeyond wsX12_isBeyond) := goodIn_app (goodIn_of _ (by decide +kernel)) ggX12_loads_X12_isBeyond
theorem dX12_loads_0 : decode cX12_loads 0 = .ok (.aload_n 0, 1) := by decide +kernel
theorem dX12_loads_1 : decode cX12_loads 1 = .ok (.iload_n 1, 1) := by decide +kernel
theorem dX12_loads_2 : decode cX12_loads 2 = .ok (.invokevirtual 189, 3) := by decide +kernel
theorem dX12_loads_5 : decode cX12_loads 5 = .ok (.ifCond .ne 10, 3) := by decide +kernel
theorem dX12_loads_8 : decode cX12_loads 8 = .ok (.iload_n 2, 1) := by decide +kernel
theorem dX12_loads_9 : decode cX12_loads 9 = .ok (.invokestatic 154, 3) := by decide +kernel
theorem dX12_loads_12 : decode cX12_loads 12 = .ok (.ifCond .eq 9, 3) := by decide +kernel
theorem dX12_loads_15 : decode cX12_loads 15 = .ok (.aload_n 0, 1) := by decide +kernel
theorem dX12_loads_16 : decode cX12_loads 16 = .ok (.iconst (-1), 1) := by decide +kernel
theorem dX12_loads_17 : decode cX12_loads 17 = .ok (.invokevirtual 158, 3) := by decide +kernel
theorem dX12_loads_20 : decode cX12_loads 20 = .ok (.ireturn, 1) := by decide +kernel
theorem dX12_loads_21 : decode cX12_loads 21 = .ok (.iload_n 3, 1) := by decide +kernel
theorem dX12_loads_22 : decode cX12_loads 22 = .ok (.i2l, 1) := by decide +kernel
theorem dX12_loads_23 : decode cX12_loads 23 = .ok (.lconst 0, 1) := by decide +kernel
theorem dX12_loads_24 : decode cX12_loads 24 = .ok (.ldc2_w 162, 3) := by decide +kernel
theorem dX12_loads_27 : decode cX12_loads 27 = .ok (.invokestatic 150, 3) := by decide +kernel
theorem dX12_loads_30 : decode cX12_loads 30 = .ok (.ifCond .ne 10, 3) := by decide +kernel
theorem dX12_loads_33 : decode cX12_loads 33 = .ok (.aload_n 0, 1) := by decide +kernel
theorem dX12_loads_34 : decode cX12_loads 34 = .ok (.bipush (-2), 2) := by decide +kernel
theorem dX12_loads_36 : decode cX12_loads 36 = .ok (.invokevirtual 158, 3) := by decide +kernel
theorem dX12_loads_39 : decode cX12_loads 39 = .ok (.ireturn, 1) := by decide +kernel
theorem dX12_loads_40 : decode cX12_loads 40 = .ok (.aload_n 0, 1) := by decide +kernel
theorem dX12_loads_41 : decode cX12_loads 41 = .ok (.getfield 7, 3) := by decide +kernel
theorem dX12_loads_44 : decode cX12_loads 44 = .ok (.iload_n 2, 1) := by decide +kernel
theorem dX12_loads_45 : decode cX12_loads 45 = .ok (.iaload, 1) := by decide +kernel
theorem dX12_loads_46 : decode cX12_loads 46 = .ok (.ifCond .lt 19, 3) := by decide +kernel
theorem dX12_loads_49 : decode cX12_loads 49 = .ok (.aload_n 0, 1) := by decide +kernel
theorem dX12_loads_50 : decode cX12_loads 50 = .ok (.getfield 13, 3) := by decide +kernel
theorem dX12_loads_53 : decode cX12_loads 53 = .ok (.iload_n 2, 1) := by decide +kernel
theorem dX12_loads_54 : decode cX12_loads 54 = .ok (.iaload, 1) := by decide +kernel
theorem dX12_loads_55 : decode cX12_loads 55 = .ok (.iload_n 3, 1) := by decide +kernel
theorem dX12_loads_56 : decode cX12_loads 56 = .ok (.if_icmp .eq 9, 3) := by decide +kernel
theorem dX12_loads_59 : decode cX12_loads 59 = .ok (.aload_n 0, 1) := by decide +kernel
theorem dX12_loads_60 : decode cX12_loads 60 = .ok (.iconst 2, 1) := by decide +kernel
theorem dX12_loads_61 : decode cX12_loads 61 = .ok (.invokevirtual 164, 3) := by decide +kernel
theorem dX12_loads_64 : decode cX12_loads 64 = .ok (.ireturn, 1) := by decide +kernel
theorem dX12_loads_65 : decode cX12_loads 65 = .ok (.aload_n 0, 1) := by decide +kernel
theorem dX12_loads_66 : decode cX12_loads 66 = .ok (.getfield 7, 3) := by decide +kernel
theorem dX12_loads_69 : decode cX12_loads 69 = .ok (.iload_n 2, 1) := by decide +kernel
theorem dX12_loads_70 : decode cX12_loads 70 = .ok (.iaload, 1) := by decide +kernel
theorem dX12_loads_71 : decode cX12_loads 71 = .ok (.ifCond .ge 9, 3) := by decide +kernel
theorem dX12_loads_74 : decode cX12_loads 74 = .ok (.aload_n 0, 1) := by decide +kernel
theorem dX12_loads_75 : decode cX12_loads 75 = .ok (.iconst 1, 1) := by decide +kernel
theorem dX12_loads_76 : decode cX12_loads 76 = .ok (.invokevirtual 164, 3) := by decide +kernel
theorem dX12_loads_79 : decode cX12_loads 79 = .ok (.ireturn, 1) := by decide +kernel
theorem dX12_loads_80 : decode cX12_loads 80 = .ok (.iload 5, 2) := by decide +kernel
theorem dX12_loads_82 : decode cX12_loads 82 = .ok (.ifCond .ge 9, 3) := by decide +kernel
theorem dX12_loads_85 : decode cX12_loads 85 = .ok (.aload_n 0, 1) := by decide +kernel
theorem dX12_loads_86 : decode cX12_loads 86 = .ok (.iconst 4, 1) := by decide +kernel
theorem dX12_loads_87 : decode cX12_loads 87 = .ok (.invokevirtual 164, 3) := by decide +kernel
theorem dX12_loads_90 : decode cX12_loads 90 = .ok (.ireturn, 1) := by decide +kernel
theorem dX12_loads_91 : decode cX12_loads 91 = .ok (.iload 4, 2) := by decide +kernel
theorem dX12_loads_93 : decode cX12_loads 93 = .ok (.iload 5, 2) := by decide +kernel
theorem dX12_loads_95 : decode cX12_loads 95 = .ok (.aload_n 0, 1) := by decide +kernel
theorem dX12_loads_96 : decode cX12_loads 96 = .ok (.getfield 7, 3) := by decide +kernel
theorem dX12_loads_99 : decode cX12_loads 99 = .ok (.iload_n 2, 1) := by decide +kernel
theorem dX12_loads_100 : decode cX12_loads 100 = .ok (.iaload, 1) := by decide +kernel
theorem dX12_loads_101 : decode cX12_loads 101 = .ok (.invokestatic 175, 3) := by decide +kernel
theorem dX12_loads_104 : decode cX12_loads 104 = .ok (.ifCond .eq 9, 3) := by decide +kernel
theorem dX12_loads_107 : decode cX12_loads 107 = .ok (.aload_n 0, 1) := by decide +kernel
theorem dX12_loads_108 : decode cX12_loads 108 = .ok (.iconst 3, 1) := by decide +kernel
theorem dX12_loads_109 : decode cX12_loads 109 = .ok (.invokevirtual 164, 3) := by decide +kernel
theorem dX12_loads_112 : decode cX12_loads 112 = .ok (.ireturn, 1) := by decide +kernel
theorem dX12_loads_113 : decode cX12_loads 113 = .ok (.iload 5, 2) := by decide +kernel
theorem dX12_loads_115 : decode cX12_loads 115 = .ok (.i2l, 1) := by decide +kernel
theorem dX12_loads_116 : decode cX12_loads 116 = .ok (.lconst 1, 1) := by decide +kernel
theorem dX12_loads_117 : decode cX12_loads 117 = .ok (.ldc2_w 194, 3) := by decide +kernel
theorem dX12_loads_120 : decode cX12_loads 120 = .ok (.invokestatic 150, 3) := by decide +kernel
theorem dX12_loads_123 : decode cX12_loads 123 = .ok (.ifCond .ne 10, 3) := by decide +kernel
theorem dX12_loads_126 : decode cX12_loads 126 = .ok (.aload_n 0, 1) := by decide +kernel
theorem dX12_loads_127 : decode cX12_loads 127 = .ok (.bipush (-2), 2) := by decide +kernel
theorem dX12_loads_129 : decode cX12_loads 129 = .ok (.invokevirtual 158, 3) := by decide +kernel
theorem dX12_loads_132 : decode cX12_loads 132 = .ok (.ireturn, 1) := by decide +kernel
theorem dX12_loads_133 : decode cX12_loads 133 = .ok (.iconst 0, 1) := by decide +kernel
theorem dX12_loads_134 : decode cX12_loads 134 = .ok (.istore 6, 2) := by decide +kernel
theorem dX12_loads_136 : decode cX12_loads 136 = .ok (.iload 6, 2) := by decide +kernel
theorem dX12_loads_138 : decode cX12_loads 138 = .ok (.iload 5, 2) := by decide +kernel
theorem dX12_loads_140 : decode cX12_loads 140 = .ok (.if_icmp .ge 42, 3) := by decide +kernel
theorem dX12_loads_143 : decode cX12_loads 143 = .ok (.aload_n 0, 1) := by decide +kernel
theorem dX12_loads_144 : decode cX12_loads 144 = .ok (.getfield 16, 3) := by decide +kernel
theorem dX12_loads_147 : decode cX12_loads 147 = .ok (.bipush 20, 2) := by decide +kernel
theorem dX12_loads_149 : decode cX12_loads 149 = .ok (.iload_n 2, 1) := by decide +kernel
theorem dX12_loads_150 : decode cX12_loads 150 = .ok (.imul, 1) := by decide +kernel
theorem dX12_loads_151 : decode cX12_loads 151 = .ok (.iload 4, 2) := by decide +kernel
theorem dX12_loads_153 : decode cX12_loads 153 = .ok (.iadd, 1) := by decide +kernel
theorem dX12_loads_154 : decode cX12_loads 154 = .ok (.iload 6, 2) := by decide +kernel
theorem dX12_loads_156 : decode cX12_loads 156 = .ok (.iadd, 1) := by decide +kernel
theorem dX12_loads_157 : decode cX12_loads 157 = .ok (.iaload, 1) := by decide +kernel
theorem dX12_loads_158 : decode cX12_loads 158 = .ok (.i2l, 1) := by decide +kernel
theorem dX12_loads_159 : decode cX12_loads 159 = .ok (.lconst 0, 1) := by decide +kernel
theorem dX12_loads_160 : decode cX12_loads 160 = .ok (.ldc2_w 196, 3) := by decide +kernel
theorem dX12_loads_163 : decode cX12_loads 163 = .ok (.invokestatic 150, 3) := by decide +kernel
theorem dX12_loads_166 : decode cX12_loads 166 = .ok (.ifCond .ne 10, 3) := by decide +kernel
theorem dX12_loads_169 : decode cX12_loads 169 = .ok (.aload_n 0, 1) := by decide +kernel
theorem dX12_loads_170 : decode cX12_loads 170 = .ok (.bipush (-2), 2) := by decide +kernel
theorem dX12_loads_172 : decode cX12_loads 172 = .ok (.invokevirtual 158, 3) := by decide +kernel
theorem dX12_loads_175 : decode cX12_loads 175 = .ok (.ireturn, 1) := by decide +kernel
theorem dX12_loads_176 : decode cX12_loads 176 = .ok (.iinc 6 1, 3) := by decide +kernel
theorem dX12_loads_179 : decode cX12_loads 179 = .ok (.goto (-43), 3) := by decide +kernel
theorem dX12_loads_182 : decode cX12_loads 182 = .ok (.aload_n 0, 1) := by decide +kernel
theorem dX12_loads_183 : decode cX12_loads 183 = .ok (.getfield 34, 3) := by decide +kernel
theorem dX12_loads_186 : decode cX12_loads 186 = .ok (.iload_n 1, 1) := by decide +kernel
theorem dX12_loads_187 : decode cX12_loads 187 = .ok (.iload 5, 2) := by decide +kernel
theorem dX12_loads_189 : decode cX12_loads 189 = .ok (.iastore, 1) := by decide +kernel
theorem dX12_loads_190 : decode cX12_loads 190 = .ok (.iconst 0, 1) := by decide +kernel
theorem dX12_loads_191 : decode cX12_loads 191 = .ok (.istore 6, 2) := by decide +kernel
theorem dX12_loads_193 : decode cX12_loads 193 = .ok (.iload 6, 2) := by decide +kernel
theorem dX12_loads_195 : decode cX12_loads 195 = .ok (.iload 5, 2) := by decide +kernel
theorem dX12_loads_197 : decode cX12_loads 197 = .ok (.if_icmp .ge 36, 3) := by decide +kernel
theorem dX12_loads_200 : decode cX12_loads 200 = .ok (.aload_n 0, 1) := by decide +kernel
theorem dX12_loads_201 : decode cX12_loads 201 = .ok (.getfield 37, 3) := by decide +kernel
theorem dX12_loads_204 : decode cX12_loads 204 = .ok (.bipush 10, 2) := by decide +kernel
theorem dX12_loads_206 : decode cX12_loads 206 = .ok (.iload_n 1, 1) := by decide +kernel
theorem dX12_loads_207 : decode cX12_loads 207 = .ok (.imul, 1) := by decide +kernel
theorem dX12_loads_208 : decode cX12_loads 208 = .ok (.iload 6, 2) := by decide +kernel
theorem dX12_loads_210 : decode cX12_loads 210 = .ok (.iadd, 1) := by decide +kernel
theorem dX12_loads_211 : decode cX12_loads 211 = .ok (.aload_n 0, 1) := by decide +kernel
theorem dX12_loads_212 : decode cX12_loads 212 = .ok (.getfield 16, 3) := by decide +kernel
theorem dX12_loads_215 : decode cX12_loads 215 = .ok (.bipush 20, 2) := by decide +kernel
theorem dX12_loads_217 : decode cX12_loads 217 = .ok (.iload_n 2, 1) := by decide +kernel
theorem dX12_loads_218 : decode cX12_loads 218 = .ok (.imul, 1) := by decide +kernel
theorem dX12_loads_219 : decode cX12_loads 219 = .ok (.iload 4, 2) := by decide +kernel
theorem dX12_loads_221 : decode cX12_loads 221 = .ok (.iadd, 1) := by decide +kernel
theorem dX12_loads_222 : decode cX12_loads 222 = .ok (.iload 6, 2) := by decide +kernel
theorem dX12_loads_224 : decode cX12_loads 224 = .ok (.iadd, 1) := by decide +kernel
theorem dX12_loads_225 : decode cX12_loads 225 = .ok (.iaload, 1) := by decide +kernel
theorem dX12_loads_226 : decode cX12_loads 226 = .ok (.iastore, 1) := by decide +kernel
theorem dX12_loads_227 : decode cX12_loads 227 = .ok (.iinc 6 1, 3) := by decide +kernel
theorem dX12_loads_230 : decode cX12_loads 230 = .ok (.goto (-37), 3) := by decide +kernel
theorem dX12_loads_233 : decode cX12_loads 233 = .ok (.aload_n 0, 1) := by decide +kernel
theorem dX12_loads_234 : decode cX12_loads 234 = .ok (.iload 5, 2) := by decide +kernel
theorem dX12_loads_236 : decode cX12_loads 236 = .ok (.invokevirtual 158, 3) := by decide +kernel
theorem dX12_loads_239 : decode cX12_loads 239 = .ok (.ireturn, 1) := by decide +kernel
set_option maxRecDepth 100000 in
theorem ggX12_valve_X12_noCylinder : GoodIn wsX12_valve wsX12_noCylinder := goodIn_s _ [8, 9, 10, 6, 12, 13, 14, 15, 16, 17, 18, 19, 20, 21, 22, 23, 24, 25, 26, 27, 28, 29, 30, 31, 32, 33, 34, 35, 36, 37, 38, 39, 40, 41, 42, 43, 44, 45, 46, 47, 48, 49, 50, 51, 52, 53, 54, 55, 56, 57, 58, 59, 60, 61, 62, 63, 64, 65, 66, 67, 68, 69, 70, 71, 72, 73, 74, 75, 76, 77] [7, 11] (by decide +kernel) rfl (by decide +kernel)
set_option maxRecDepth 20000 in
theorem gX12_valve_X12_noCylinder : GoodIn wsX12_valve (wsV RX12 189 RX12 yX12_noCylinder wsX12_noCylinder) := goodIn_app (goodIn_of _ (by decide +kernel)) ggX12_valve_X12_noCylinder
set_option maxRecDepth 100000 in
theorem ggX12_valve_X12_in : GoodIn wsX12_valve wsX12_in := goodIn_s _ [] [11] (by decide +kernel) rfl (by decide +kernel)
set_option maxRecDepth 20000 in
theorem gX12_valve_X12_in : GoodIn wsX12_valve (va_wsS RX12 150 yX12_in wsX12_in) := goodIn_app (goodIn_of _ (by decide +kernel)) ggX12_valve_X12_in
theorem dX12_valve_0 : decode cX12_valve 0 = .ok (.aload_n 0, 1) := by decide +kernel
theorem dX12_valve_1 : decode cX12_valve 1 = .ok (.iload_n 1, 1) := by decide +kernel
theorem dX12_valve_2 : decode cX12_valve 2 = .ok (.invokevirtual 189, 3) := by decide +kernel
theorem dX12_valve_5 : decode cX12_valve 5 = .ok (.ifCond .eq 5, 3) := by decide +kernel
theorem dX12_valve_8 : decode cX12_valve 8 = .ok (.iconst (-1), 1) := by decide +kernel
theorem dX12_valve_9 : decode cX12_valve 9 = .ok (.ireturn, 1) := by decide +kernel
theorem dX12_valve_10 : decode cX12_valve 10 = .ok (.iload_n 2, 1) := by decide +kernel
theorem dX12_valve_11 : decode cX12_valve 11 = .ok (.i2l, 1) := by decide +kernel
theorem dX12_valve_12 : decode cX12_valve 12 = .ok (.lconst 0, 1) := by decide +kernel
theorem dX12_valve_13 : decode cX12_valve 13 = .ok (.ldc2_w 162, 3) := by decide +kernel
theorem dX12_valve_16 : decode cX12_valve 16 = .ok (.invokestatic 150, 3) := by decide +kernel
theorem dX12_valve_19 : decode cX12_valve 19 = .ok (.ifCond .ne 6, 3) := by decide +kernel
theorem dX12_valve_22 : decode cX12_valve 22 = .ok (.bipush (-2), 2) := by decide +kernel
theorem dX12_valve_24 : decode cX12_valve 24 = .ok (.ireturn, 1) := by decide +kernel
theorem dX12_valve_25 : decode cX12_valve 25 = .ok (.aload_n 0, 1) := by decide +kernel
theorem dX12_valve_26 : decode cX12_valve 26 = .ok (.getfield 49, 3) := by decide +kernel
theorem dX12_valve_29 : decode cX12_valve 29 = .ok (.iload_n 1, 1) := by decide +kernel
theorem dX12_valve_30 : decode cX12_valve 30 = .ok (.iaload, 1) := by decide +kernel
theorem dX12_valve_31 : decode cX12_valve 31 = .ok (.istore_n 3, 1) := by decide +kernel
theorem dX12_valve_32 : decode cX12_valve 32 = .ok (.aload_n 0, 1) := by decide +kernel
theorem dX12_valve_33 : decode cX12_valve 33 = .ok (.getfield 49, 3) := by decide +kernel
theorem dX12_valve_36 : decode cX12_valve 36 = .ok (.iload_n 1, 1) := by decide +kernel
theorem dX12_valve_37 : decode cX12_valve 37 = .ok (.iload_n 2, 1) := by decide +kernel
theorem dX12_valve_38 : decode cX12_valve 38 = .ok (.iastore, 1) := by decide +kernel
theorem dX12_valve_39 : decode cX12_valve 39 = .ok (.iload_n 3, 1) := by decide +kernel
theorem dX12_valve_40 : decode cX12_valve 40 = .ok (.ireturn, 1) := by decide +kernel
theorem dX12_room_0 : decode cX12_room 0 = .ok (.aload_n 0, 1) := by decide +kernel
theorem dX12_room_1 : decode cX12_room 1 = .ok (.getfield 25, 3) := by decide +kernel
theorem dX12_room_4 : decode cX12_room 4 = .ok (.iload_n 1, 1) := by decide +kernel
theorem dX12_room_5 : decode cX12_room 5 = .ok (.iaload, 1) := by decide +kernel
theorem dX12_room_6 : decode cX12_room 6 = .ok (.aload_n 0, 1) := by decide +kernel
theorem dX12_room_7 : decode cX12_room 7 = .ok (.getfield 28, 3) := by decide +kernel
theorem dX12_room_10 : decode cX12_room 10 = .ok (.iload_n 1, 1) := by decide +kernel
theorem dX12_room_11 : decode cX12_room 11 = .ok (.iaload, 1) := by decide +kernel
theorem dX12_room_12 : decode cX12_room 12 = .ok (.imul, 1) := by decide +kernel
theorem dX12_room_13 : decode cX12_room 13 = .ok (.ireturn, 1) := by decide +kernel
set_option maxRecDepth 100000 in
theorem ggX12_fill_X12_noCylinder : GoodIn wsX12_fill wsX12_noCylinder := goodIn_s _ [7, 8, 9, 5, 17, 18, 19, 20, 21, 22, 23, 24, 25, 26, 27, 28, 29, 30, 31, 32, 33, 34, 35, 36, 37, 38, 39, 40, 41, 42, 43, 44, 45, 46, 47, 48, 49, 50, 51, 52, 53, 54, 55, 56, 57, 58, 59, 60, 61, 62, 63, 64, 65, 66, 67, 68, 69, 70, 71, 72, 73, 74, 75, 76, 77, 78, 79, 80, 81, 82] [6, 10] (by decide +kernel) rfl (by decide +kernel)
set_option maxRecDepth 20000 in
theorem gX12_fill_X12_noCylinder : GoodIn wsX12_fill (wsV RX12 189 RX12 yX12_noCylinder wsX12_noCylinder) := goodIn_app (goodIn_of _ (by decide +kernel)) ggX12_fill_X12_noCylinder
set_option maxRecDepth 100000 in
theorem ggX12_fill_X12_room : GoodIn wsX12_fill wsX12_room := goodIn_s _ [15, 16, 17, 18, 19, 20, 21, 22, 23, 24, 25, 26, 27, 28, 29, 30, 31, 32, 33, 34, 35, 36, 37, 38, 39, 40, 41, 42, 43, 44, 45, 46, 47, 48, 49, 50, 51, 52, 53, 54, 55, 56, 57, 58, 59, 60, 61, 62, 63, 64, 65, 66, 67, 68, 69, 70, 71, 72, 73, 74, 75, 76, 77, 78, 79, 80, 81, 82] [14] (by decide +kernel) rfl (by decide +kernel)
set_option maxRecDepth 20000 in
theorem gX12_fill_X12_room : GoodIn wsX12_fill (wsV RX12 198 RX12 yX12_room wsX12_room) := goodIn_app (goodIn_of _ (by decide +kernel)) ggX12_fill_X12_room
set_option maxRecDepth 100000 in
theorem ggX12_fill_X12_in : GoodIn wsX12_fill wsX12_in := goodIn_s _ [] [10] (by decide +kernel) rfl (by decide +kernel)
set_option maxRecDepth 20000 in
theorem gX12_fill_X12_in : GoodIn wsX12_fill (va_wsS RX12 150 yX12_in wsX12_in) := goodIn_app (goodIn_of _ (by decide +kernel)) ggX12_fill_X12_in
theorem dX12_fill_0 : decode cX12_fill 0 = .ok (.aload_n 0, 1) := by decide +kernel
theorem dX12_fill_1 : decode cX12_fill 1 = .ok (.iload_n 1, 1) := by decide +kernel
theorem dX12_fill_2 : decode cX12_fill 2 = .ok (.invokevirtual 189, 3) := by decide +kernel
theorem dX12_fill_5 : decode cX12_fill 5 = .ok (.ifCond .eq 5, 3) := by decide +kernel
theorem dX12_fill_8 : decode cX12_fill 8 = .ok (.iconst (-1), 1) := by decide +kernel
theorem dX12_fill_9 : decode cX12_fill 9 = .ok (.ireturn, 1) := by decide +kernel
theorem dX12_fill_10 : decode cX12_fill 10 = .ok (.iload_n 2, 1) := by decide +kernel
theorem dX12_fill_11 : decode cX12_fill 11 = .ok (.i2l, 1) := by decide +kernel
theorem dX12_fill_12 : decode cX12_fill 12 = .ok (.lconst 0, 1) := by decide +kernel
theorem dX12_fill_13 : decode cX12_fill 13 = .ok (.aload_n 0, 1) := by decide +kernel
theorem dX12_fill_14 : decode cX12_fill 14 = .ok (.iload_n 1, 1) := by decide +kernel
theorem dX12_fill_15 : decode cX12_fill 15 = .ok (.invokevirtual 198, 3) := by decide +kernel
theorem dX12_fill_18 : decode cX12_fill 18 = .ok (.i2l, 1) := by decide +kernel
theorem dX12_fill_19 : decode cX12_fill 19 = .ok (.invokestatic 150, 3) := by decide +kernel
theorem dX12_fill_22 : decode cX12_fill 22 = .ok (.ifCond .ne 6, 3) := by decide +kernel
theorem dX12_fill_25 : decode cX12_fill 25 = .ok (.bipush (-2), 2) := by decide +kernel
theorem dX12_fill_27 : decode cX12_fill 27 = .ok (.ireturn, 1) := by decide +kernel
theorem dX12_fill_28 : decode cX12_fill 28 = .ok (.aload_n 0, 1) := by decide +kernel
theorem dX12_fill_29 : decode cX12_fill 29 = .ok (.getfield 31, 3) := by decide +kernel
theorem dX12_fill_32 : decode cX12_fill 32 = .ok (.iload_n 1, 1) := by decide +kernel
theorem dX12_fill_33 : decode cX12_fill 33 = .ok (.iaload, 1) := by decide +kernel
theorem dX12_fill_34 : decode cX12_fill 34 = .ok (.istore_n 3, 1) := by decide +kernel
theorem dX12_fill_35 : decode cX12_fill 35 = .ok (.aload_n 0, 1) := by decide +kernel
theorem dX12_fill_36 : decode cX12_fill 36 = .ok (.getfield 31, 3) := by decide +kernel
theorem dX12_fill_39 : decode cX12_fill 39 = .ok (.iload_n 1, 1) := by decide +kernel
theorem dX12_fill_40 : decode cX12_fill 40 = .ok (.iload_n 2, 1) := by decide +kernel
theorem dX12_fill_41 : decode cX12_fill 41 = .ok (.iastore, 1) := by decide +kernel
theorem dX12_fill_42 : decode cX12_fill 42 = .ok (.iload_n 3, 1) := by decide +kernel
theorem dX12_fill_43 : decode cX12_fill 43 = .ok (.ireturn, 1) := by decide +kernel
set_option maxRecDepth 100000 in
theorem ggX12_burst_X12_noCylinder : GoodIn wsX12_burst wsX12_noCylinder := goodIn_s _ [7, 8, 9, 5, 11, 12, 13, 14, 15, 16, 17, 18, 19, 20, 21, 22, 23, 24, 25, 26, 27, 28, 29, 30, 31, 32, 33, 34, 35, 36, 37, 38, 39, 40, 41, 42, 43, 44, 45, 46, 47, 48, 49, 50, 51, 52, 53, 54, 55, 56, 57, 58, 59, 60, 61, 62, 63, 64, 65, 66, 67, 68, 69, 70, 71, 72, 73, 74, 75, 76] [6, 10] (by decide +kernel) rfl (by decide +kernel)
set_option maxRecDepth 20000 in
theorem gX12_burst_X12_noCylinder : GoodIn wsX12_burst (wsV RX12 189 RX12 yX12_noCylinder wsX12_noCylinder) := goodIn_app (goodIn_of _ (by decide +kernel)) ggX12_burst_X12_noCylinder
theorem dX12_burst_0 : decode cX12_burst 0 = .ok (.aload_n 0, 1) := by decide +kernel
theorem dX12_burst_1 : decode cX12_burst 1 = .ok (.iload_n 1, 1) := by decide +kernel
theorem dX12_burst_2 : decode cX12_burst 2 = .ok (.invokevirtual 189, 3) := by decide +kernel
theorem dX12_burst_5 : decode cX12_burst 5 = .ok (.ifCond .eq 5, 3) := by decide +kernel
theorem dX12_burst_8 : decode cX12_burst 8 = .ok (.iconst (-1), 1) := by decide +kernel
theorem dX12_burst_9 : decode cX12_burst 9 = .ok (.ireturn, 1) := by decide +kernel
theorem dX12_burst_10 : decode cX12_burst 10 = .ok (.aload_n 0, 1) := by decide +kernel
theorem dX12_burst_11 : decode cX12_burst 11 = .ok (.getfield 52, 3) := by decide +kernel
theorem dX12_burst_14 : decode cX12_burst 14 = .ok (.iload_n 1, 1) := by decide +kernel
theorem dX12_burst_15 : decode cX12_burst 15 = .ok (.baload, 1) := by decide +kernel
theorem dX12_burst_16 : decode cX12_burst 16 = .ok (.iload_n 2, 1) := by decide +kernel
theorem dX12_burst_17 : decode cX12_burst 17 = .ok (.if_icmp .eq 7, 3) := by decide +kernel
theorem dX12_burst_20 : decode cX12_burst 20 = .ok (.iconst 1, 1) := by decide +kernel
theorem dX12_burst_21 : decode cX12_burst 21 = .ok (.goto 4, 3) := by decide +kernel
theorem dX12_burst_24 : decode cX12_burst 24 = .ok (.iconst 0, 1) := by decide +kernel
theorem dX12_burst_25 : decode cX12_burst 25 = .ok (.istore_n 3, 1) := by decide +kernel
theorem dX12_burst_26 : decode cX12_burst 26 = .ok (.aload_n 0, 1) := by decide +kernel
theorem dX12_burst_27 : decode cX12_burst 27 = .ok (.getfield 52, 3) := by decide +kernel
theorem dX12_burst_30 : decode cX12_burst 30 = .ok (.iload_n 1, 1) := by decide +kernel
theorem dX12_burst_31 : decode cX12_burst 31 = .ok (.iload_n 2, 1) := by decide +kernel
theorem dX12_burst_32 : decode cX12_burst 32 = .ok (.bastore, 1) := by decide +kernel
theorem dX12_burst_33 : decode cX12_burst 33 = .ok (.iload_n 3, 1) := by decide +kernel
theorem dX12_burst_34 : decode cX12_burst 34 = .ok (.ifCond .eq 7, 3) := by decide +kernel
theorem dX12_burst_37 : decode cX12_burst 37 = .ok (.iconst 1, 1) := by decide +kernel
theorem dX12_burst_38 : decode cX12_burst 38 = .ok (.goto 4, 3) := by decide +kernel
theorem dX12_burst_41 : decode cX12_burst 41 = .ok (.iconst 0, 1) := by decide +kernel
theorem dX12_burst_42 : decode cX12_burst 42 = .ok (.ireturn, 1) := by decide +kernel
set_option maxRecDepth 100000 in
theorem ggX12_store_X12_in : GoodIn wsX12_store wsX12_in := goodIn_s _ [] [11] (by decide +kernel) rfl (by decide +kernel)
set_option maxRecDepth 20000 in
theorem gX12_store_X12_in : GoodIn wsX12_store (va_wsS RX12 150 yX12_in wsX12_in) := goodIn_app (goodIn_of _ (by decide +kernel)) ggX12_store_X12_in
theorem dX12_store_0 : decode cX12_store 0 = .ok (.iload_n 1, 1) := by decide +kernel
theorem dX12_store_1 : decode cX12_store 1 = .ok (.i2l, 1) := by decide +kernel
theorem dX12_store_2 : decode cX12_store 2 = .ok (.lconst 0, 1) := by decide +kernel
theorem dX12_store_3 : decode cX12_store 3 = .ok (.ldc2_w 201, 3) := by decide +kernel
theorem dX12_store_6 : decode cX12_store 6 = .ok (.invokestatic 150, 3) := by decide +kernel
theorem dX12_store_9 : decode cX12_store 9 = .ok (.ifCond .eq 27, 3) := by decide +kernel
theorem dX12_store_12 : decode cX12_store 12 = .ok (.iload_n 2, 1) := by decide +kernel
theorem dX12_store_13 : decode cX12_store 13 = .ok (.i2l, 1) := by decide +kernel
theorem dX12_store_14 : decode cX12_store 14 = .ok (.lconst 0, 1) := by decide +kernel
theorem dX12_store_15 : decode cX12_store 15 = .ok (.ldc2_w 182, 3) := by decide +kernel
theorem dX12_store_18 : decode cX12_store 18 = .ok (.invokestatic 150, 3) := by decide +kernel
theorem dX12_store_21 : decode cX12_store 21 = .ok (.ifCond .eq 15, 3) := by decide +kernel
theorem dX12_store_24 : decode cX12_store 24 = .ok (.iload_n 3, 1) := by decide +kernel
theorem dX12_store_25 : decode cX12_store 25 = .ok (.i2l, 1) := by decide +kernel
theorem dX12_store_26 : decode cX12_store 26 = .ok (.lconst 1, 1) := by decide +kernel
theorem dX12_store_27 : decode cX12_store 27 = .ok (.ldc2_w 187, 3) := by decide +kernel
theorem dX12_store_30 : decode cX12_store 30 = .ok (.invokestatic 150, 3) := by decide +kernel
theorem dX12_store_33 : decode cX12_store 33 = .ok (.ifCond .ne 6, 3) := by decide +kernel
theorem dX12_store_36 : decode cX12_store 36 = .ok (.bipush (-2), 2) := by decide +kernel
theorem dX12_store_38 : decode cX12_store 38 = .ok (.ireturn, 1) := by decide +kernel
theorem dX12_store_39 : decode cX12_store 39 = .ok (.aload_n 0, 1) := by decide +kernel
theorem dX12_store_40 : decode cX12_store 40 = .ok (.getfield 203, 3) := by decide +kernel
theorem dX12_store_43 : decode cX12_store 43 = .ok (.iload_n 1, 1) := by decide +kernel
theorem dX12_store_44 : decode cX12_store 44 = .ok (.if_icmp .le 6, 3) := by decide +kernel
theorem dX12_store_47 : decode cX12_store 47 = .ok (.bipush (-3), 2) := by decide +kernel
theorem dX12_store_49 : decode cX12_store 49 = .ok (.ireturn, 1) := by decide +kernel
theorem dX12_store_50 : decode cX12_store 50 = .ok (.aload_n 0, 1) := by decide +kernel
theorem dX12_store_51 : decode cX12_store 51 = .ok (.iload_n 1, 1) := by decide +kernel
theorem dX12_store_52 : decode cX12_store 52 = .ok (.putfield 206, 3) := by decide +kernel
theorem dX12_store_55 : decode cX12_store 55 = .ok (.aload_n 0, 1) := by decide +kernel
theorem dX12_store_56 : decode cX12_store 56 = .ok (.iload_n 2, 1) := by decide +kernel
theorem dX12_store_57 : decode cX12_store 57 = .ok (.putfield 209, 3) := by decide +kernel
theorem dX12_store_60 : decode cX12_store 60 = .ok (.aload_n 0, 1) := by decide +kernel
theorem dX12_store_61 : decode cX12_store 61 = .ok (.iload_n 3, 1) := by decide +kernel
theorem dX12_store_62 : decode cX12_store 62 = .ok (.putfield 133, 3) := by decide +kernel
theorem dX12_store_65 : decode cX12_store 65 = .ok (.iconst 1, 1) := by decide +kernel
theorem dX12_store_66 : decode cX12_store 66 = .ok (.ireturn, 1) := by decide +kernel
set_option maxRecDepth 100000 in
theorem ggX12_loadOf_X12_room : GoodIn wsX12_loadOf wsX12_room := goodIn_s _ [9, 10, 14, 15, 16, 17, 18, 19, 20, 21, 22, 23, 24, 25, 26, 27, 28, 29, 30, 31, 32, 33, 34, 35, 36, 37, 38, 39, 40, 41, 42, 43, 44, 45, 46, 47, 48, 49, 50, 51, 52, 53, 54, 55, 56, 57, 58, 59, 60, 61, 62, 63, 64, 65, 66, 67, 68, 69, 70, 71, 72, 73, 74, 75, 76, 77, 78, 79] [8] (by decide +kernel) rfl (by decide +kernel)
set_option maxRecDepth 20000 in
theorem gX12_loadOf_X12_room : GoodIn wsX12_loadOf (wsV RX12 198 RX12 yX12_room wsX12_room) := goodIn_app (goodIn_of _ (by decide +kernel)) ggX12_loadOf_X12_room
set_option maxRecDepth 100000 in
theorem ggX12_loadOf_X12_lesser : GoodIn wsX12_loadOf wsX12_lesser := goodIn_s _ [] [13] (by decide +kernel) rfl (by decide +kernel)
set_option maxRecDepth 20000 in
theorem gX12_loadOf_X12_lesser : GoodIn wsX12_loadOf (va_wsS RX12 212 yX12_lesser wsX12_lesser) := goodIn_app (goodIn_of _ (by decide +kernel)) ggX12_loadOf_X12_lesser
theorem dX12_loadOf_0 : decode cX12_loadOf 0 = .ok (.aload_n 0, 1) := by decide +kernel
theorem dX12_loadOf_1 : decode cX12_loadOf 1 = .ok (.getfield 31, 3) := by decide +kernel
theorem dX12_loadOf_4 : decode cX12_loadOf 4 = .ok (.iload_n 1, 1) := by decide +kernel
theorem dX12_loadOf_5 : decode cX12_loadOf 5 = .ok (.iaload, 1) := by decide +kernel
theorem dX12_loadOf_6 : decode cX12_loadOf 6 = .ok (.aload_n 0, 1) := by decide +kernel
theorem dX12_loadOf_7 : decode cX12_loadOf 7 = .ok (.getfield 34, 3) := by decide +kernel
theorem dX12_loadOf_10 : decode cX12_loadOf 10 = .ok (.iload_n 1, 1) := by decide +kernel
theorem dX12_loadOf_11 : decode cX12_loadOf 11 = .ok (.iaload, 1) := by decide +kernel
theorem dX12_loadOf_12 : decode cX12_loadOf 12 = .ok (.imul, 1) := by decide +kernel
theorem dX12_loadOf_13 : decode cX12_loadOf 13 = .ok (.aload_n 0, 1) := by decide +kernel
theorem dX12_loadOf_14 : decode cX12_loadOf 14 = .ok (.iload_n 1, 1) := by decide +kernel
theorem dX12_loadOf_15 : decode cX12_loadOf 15 = .ok (.invokevirtual 198, 3) := by decide +kernel
theorem dX12_loadOf_18 : decode cX12_loadOf 18 = .ok (.idiv, 1) := by decide +kernel
theorem dX12_loadOf_19 : decode cX12_loadOf 19 = .ok (.istore_n 2, 1) := by decide +kernel
theorem dX12_loadOf_20 : decode cX12_loadOf 20 = .ok (.aload_n 0, 1) := by decide +kernel
theorem dX12_loadOf_21 : decode cX12_loadOf 21 = .ok (.getfield 37, 3) := by decide +kernel
theorem dX12_loadOf_24 : decode cX12_loadOf 24 = .ok (.bipush 10, 2) := by decide +kernel
theorem dX12_loadOf_26 : decode cX12_loadOf 26 = .ok (.iload_n 1, 1) := by decide +kernel
theorem dX12_loadOf_27 : decode cX12_loadOf 27 = .ok (.imul, 1) := by decide +kernel
theorem dX12_loadOf_28 : decode cX12_loadOf 28 = .ok (.iload_n 2, 1) := by decide +kernel
theorem dX12_loadOf_29 : decode cX12_loadOf 29 = .ok (.aload_n 0, 1) := by decide +kernel
theorem dX12_loadOf_30 : decode cX12_loadOf 30 = .ok (.getfield 34, 3) := by decide +kernel
theorem dX12_loadOf_33 : decode cX12_loadOf 33 = .ok (.iload_n 1, 1) := by decide +kernel
theorem dX12_loadOf_34 : decode cX12_loadOf 34 = .ok (.iaload, 1) := by decide +kernel
theorem dX12_loadOf_35 : decode cX12_loadOf 35 = .ok (.iconst 1, 1) := by decide +kernel
theorem dX12_loadOf_36 : decode cX12_loadOf 36 = .ok (.isub, 1) := by decide +kernel
theorem dX12_loadOf_37 : decode cX12_loadOf 37 = .ok (.invokestatic 212, 3) := by decide +kernel
theorem dX12_loadOf_40 : decode cX12_loadOf 40 = .ok (.iadd, 1) := by decide +kernel
theorem dX12_loadOf_41 : decode cX12_loadOf 41 = .ok (.iaload, 1) := by decide +kernel
theorem dX12_loadOf_42 : decode cX12_loadOf 42 = .ok (.ireturn, 1) := by decide +kernel
set_option maxRecDepth 100000 in
theorem ggX12_needOf_X12_loadOf : GoodIn wsX12_needOf wsX12_loadOf := goodIn_s _ [9, 10, 11, 12, 13, 14, 7, 1, 16, 17, 18, 20, 21, 22, 23, 24, 25, 26, 27, 28, 29, 30, 31, 32, 33, 34, 35, 36, 37, 38, 39, 40, 41, 42, 43, 44, 45, 46, 47, 48, 49, 50, 51, 52, 53, 54, 55, 56, 57, 58, 59, 60, 61, 62, 63, 64, 65, 66, 67, 68, 69, 70, 71, 72, 73, 74, 75, 76, 77, 78, 79, 80, 81, 82, 83, 84, 85] [8, 15, 19] (by decide +kernel) rfl (by decide +kernel)
set_option maxRecDepth 20000 in
theorem gX12_needOf_X12_loadOf : GoodIn wsX12_needOf (wsV RX12 215 RX12 yX12_loadOf wsX12_loadOf) := goodIn_app (goodIn_of _ (by decide +kernel)) ggX12_needOf_X12_loadOf
theorem dX12_needOf_0 : decode cX12_needOf 0 = .ok (.aload_n 0, 1) := by decide +kernel
theorem dX12_needOf_1 : decode cX12_needOf 1 = .ok (.iload_n 1, 1) := by decide +kernel
theorem dX12_needOf_2 : decode cX12_needOf 2 = .ok (.invokevirtual 215, 3) := by decide +kernel
theorem dX12_needOf_5 : decode cX12_needOf 5 = .ok (.aload_n 0, 1) := by decide +kernel
theorem dX12_needOf_6 : decode cX12_needOf 6 = .ok (.getfield 25, 3) := by decide +kernel
theorem dX12_needOf_9 : decode cX12_needOf 9 = .ok (.iload_n 1, 1) := by decide +kernel
theorem dX12_needOf_10 : decode cX12_needOf 10 = .ok (.iaload, 1) := by decide +kernel
theorem dX12_needOf_11 : decode cX12_needOf 11 = .ok (.iadd, 1) := by decide +kernel
theorem dX12_needOf_12 : decode cX12_needOf 12 = .ok (.iconst 1, 1) := by decide +kernel
theorem dX12_needOf_13 : decode cX12_needOf 13 = .ok (.isub, 1) := by decide +kernel
theorem dX12_needOf_14 : decode cX12_needOf 14 = .ok (.aload_n 0, 1) := by decide +kernel
theorem dX12_needOf_15 : decode cX12_needOf 15 = .ok (.getfield 25, 3) := by decide +kernel
theorem dX12_needOf_18 : decode cX12_needOf 18 = .ok (.iload_n 1, 1) := by decide +kernel
theorem dX12_needOf_19 : decode cX12_needOf 19 = .ok (.iaload, 1) := by decide +kernel
theorem dX12_needOf_20 : decode cX12_needOf 20 = .ok (.idiv, 1) := by decide +kernel
theorem dX12_needOf_21 : decode cX12_needOf 21 = .ok (.istore_n 2, 1) := by decide +kernel
theorem dX12_needOf_22 : decode cX12_needOf 22 = .ok (.aload_n 0, 1) := by decide +kernel
theorem dX12_needOf_23 : decode cX12_needOf 23 = .ok (.getfield 22, 3) := by decide +kernel
theorem dX12_needOf_26 : decode cX12_needOf 26 = .ok (.iload_n 1, 1) := by decide +kernel
theorem dX12_needOf_27 : decode cX12_needOf 27 = .ok (.iaload, 1) := by decide +kernel
theorem dX12_needOf_28 : decode cX12_needOf 28 = .ok (.iconst 2, 1) := by decide +kernel
theorem dX12_needOf_29 : decode cX12_needOf 29 = .ok (.if_icmp .ne 11, 3) := by decide +kernel
theorem dX12_needOf_32 : decode cX12_needOf 32 = .ok (.iload_n 2, 1) := by decide +kernel
theorem dX12_needOf_33 : decode cX12_needOf 33 = .ok (.iconst 1, 1) := by decide +kernel
theorem dX12_needOf_34 : decode cX12_needOf 34 = .ok (.iadd, 1) := by decide +kernel
theorem dX12_needOf_35 : decode cX12_needOf 35 = .ok (.iconst 2, 1) := by decide +kernel
theorem dX12_needOf_36 : decode cX12_needOf 36 = .ok (.idiv, 1) := by decide +kernel
theorem dX12_needOf_37 : decode cX12_needOf 37 = .ok (.goto 4, 3) := by decide +kernel
theorem dX12_needOf_40 : decode cX12_needOf 40 = .ok (.iload_n 2, 1) := by decide +kernel
theorem dX12_needOf_41 : decode cX12_needOf 41 = .ok (.aload_n 0, 1) := by decide +kernel
theorem dX12_needOf_42 : decode cX12_needOf 42 = .ok (.getfield 40, 3) := by decide +kernel
theorem dX12_needOf_45 : decode cX12_needOf 45 = .ok (.iload_n 1, 1) := by decide +kernel
theorem dX12_needOf_46 : decode cX12_needOf 46 = .ok (.iaload, 1) := by decide +kernel
theorem dX12_needOf_47 : decode cX12_needOf 47 = .ok (.iadd, 1) := by decide +kernel
theorem dX12_needOf_48 : decode cX12_needOf 48 = .ok (.ireturn, 1) := by decide +kernel
theorem dX12_storePressure_0 : decode cX12_storePressure 0 = .ok (.aload_n 0, 1) := by decide +kernel
theorem dX12_storePressure_1 : decode cX12_storePressure 1 = .ok (.getfield 209, 3) := by decide +kernel
theorem dX12_storePressure_4 : decode cX12_storePressure 4 = .ok (.aload_n 0, 1) := by decide +kernel
theorem dX12_storePressure_5 : decode cX12_storePressure 5 = .ok (.getfield 203, 3) := by decide +kernel
theorem dX12_storePressure_8 : decode cX12_storePressure 8 = .ok (.aload_n 0, 1) := by decide +kernel
theorem dX12_storePressure_9 : decode cX12_storePressure 9 = .ok (.getfield 133, 3) := by decide +kernel
theorem dX12_storePressure_12 : decode cX12_storePressure 12 = .ok (.idiv, 1) := by decide +kernel
theorem dX12_storePressure_13 : decode cX12_storePressure 13 = .ok (.iadd, 1) := by decide +kernel
theorem dX12_storePressure_14 : decode cX12_storePressure 14 = .ok (.ireturn, 1) := by decide +kernel
set_option maxRecDepth 100000 in
theorem ggX12_about_X12_noCylinder : GoodIn wsX12_about wsX12_noCylinder := goodIn_s _ [14, 15, 16, 12, 35, 36, 37, 38, 39, 40, 41, 42, 43, 44, 45, 46, 47, 48, 49, 50, 51, 52, 53, 54, 55, 56, 57, 58, 59, 60, 61, 62, 63, 64, 65, 66, 67, 68, 69, 70, 71, 72, 73, 74, 75, 76, 77, 78, 79, 80, 81, 82, 83, 84, 85, 86, 87, 88, 89, 90, 91, 92, 93, 94, 95, 96, 97, 98, 99, 100] [13, 17] (by decide +kernel) rfl (by decide +kernel)
set_option maxRecDepth 20000 in
theorem gX12_about_X12_noCylinder : GoodIn wsX12_about (wsV RX12 189 RX12 yX12_noCylinder wsX12_noCylinder) := goodIn_app (goodIn_of _ (by decide +kernel)) ggX12_about_X12_noCylinder
set_option maxRecDepth 100000 in
theorem ggX12_about_X12_loadOf : GoodIn wsX12_about wsX12_loadOf := goodIn_s _ [4, 6, 22, 23, 24, 25, 12, 2, 3, 27, 28, 35, 36, 37, 38, 39, 40, 41, 42, 43, 44, 45, 46, 47, 48, 49, 50, 51, 52, 53, 54, 55, 56, 57, 58, 59, 60, 61, 62, 63, 64, 65, 66, 67, 68, 69, 70, 71, 72, 73, 74, 75, 76, 77, 78, 79, 80, 81, 82, 83, 84, 85, 86, 87, 88, 89, 90, 91, 92, 93, 94, 95, 96, 97, 98, 99, 100] [21, 26, 29] (by decide +kernel) rfl (by decide +kernel)
set_option maxRecDepth 20000 in
theorem gX12_about_X12_loadOf : GoodIn wsX12_about (wsV RX12 215 RX12 yX12_loadOf wsX12_loadOf) := goodIn_app (goodIn_of _ (by decide +kernel)) ggX12_about_X12_loadOf
set_option maxRecDepth 100000 in
theorem ggX12_about_X12_needOf : GoodIn wsX12_about wsX12_needOf := goodIn_s _ [2, 1, 34, 18, 19, 20, 12, 4, 6, 22, 23, 24, 25, 3, 27, 28, 35, 36, 37, 38, 39, 40, 41, 42, 43, 44, 45, 46, 47, 48, 49, 50, 51, 52, 53, 54, 55, 56, 57, 58, 59, 60, 61, 62, 63, 64, 65, 66, 67, 68, 69, 70, 71, 72, 73, 74, 75, 76, 77, 78, 79, 80, 81, 82, 83, 84, 85, 86, 87, 88, 89, 90, 91, 92, 93, 94, 95, 96, 97, 98, 99, 100] [33, 21, 26, 29] (by decide +kernel) rfl (by decide +kernel)
set_option maxRecDepth 20000 in
theorem gX12_about_X12_needOf : GoodIn wsX12_about (wsV RX12 218 RX12 yX12_needOf wsX12_needOf) := goodIn_app (goodIn_of _ (by decide +kernel)) ggX12_about_X12_needOf
theorem dX12_about_0 : decode cX12_about 0 = .ok (.aload_n 0, 1) := by decide +kernel
theorem dX12_about_1 : decode cX12_about 1 = .ok (.iload_n 1, 1) := by decide +kernel
theorem dX12_about_2 : decode cX12_about 2 = .ok (.invokevirtual 189, 3) := by decide +kernel
theorem dX12_about_5 : decode cX12_about 5 = .ok (.ifCond .eq 5, 3) := by decide +kernel
theorem dX12_about_8 : decode cX12_about 8 = .ok (.iconst (-1), 1) := by decide +kernel
theorem dX12_about_9 : decode cX12_about 9 = .ok (.ireturn, 1) := by decide +kernel
theorem dX12_about_10 : decode cX12_about 10 = .ok (.iload_n 2, 1) := by decide +kernel
theorem dX12_about_11 : decode cX12_about 11 = .ok (.tableswitch 129 0 9 #[53, 60, 67, 74, 81, 87, 93, 100, 107, 122], 53) := by decide +kernel
theorem dX12_about_64 : decode cX12_about 64 = .ok (.aload_n 0, 1) := by decide +kernel
theorem dX12_about_65 : decode cX12_about 65 = .ok (.getfield 22, 3) := by decide +kernel
theorem dX12_about_68 : decode cX12_about 68 = .ok (.iload_n 1, 1) := by decide +kernel
theorem dX12_about_69 : decode cX12_about 69 = .ok (.iaload, 1) := by decide +kernel
theorem dX12_about_70 : decode cX12_about 70 = .ok (.ireturn, 1) := by decide +kernel
theorem dX12_about_71 : decode cX12_about 71 = .ok (.aload_n 0, 1) := by decide +kernel
theorem dX12_about_72 : decode cX12_about 72 = .ok (.getfield 25, 3) := by decide +kernel
theorem dX12_about_75 : decode cX12_about 75 = .ok (.iload_n 1, 1) := by decide +kernel
theorem dX12_about_76 : decode cX12_about 76 = .ok (.iaload, 1) := by decide +kernel
theorem dX12_about_77 : decode cX12_about 77 = .ok (.ireturn, 1) := by decide +kernel
theorem dX12_about_78 : decode cX12_about 78 = .ok (.aload_n 0, 1) := by decide +kernel
theorem dX12_about_79 : decode cX12_about 79 = .ok (.getfield 28, 3) := by decide +kernel
theorem dX12_about_82 : decode cX12_about 82 = .ok (.iload_n 1, 1) := by decide +kernel
theorem dX12_about_83 : decode cX12_about 83 = .ok (.iaload, 1) := by decide +kernel
theorem dX12_about_84 : decode cX12_about 84 = .ok (.ireturn, 1) := by decide +kernel
theorem dX12_about_85 : decode cX12_about 85 = .ok (.aload_n 0, 1) := by decide +kernel
theorem dX12_about_86 : decode cX12_about 86 = .ok (.getfield 31, 3) := by decide +kernel
theorem dX12_about_89 : decode cX12_about 89 = .ok (.iload_n 1, 1) := by decide +kernel
theorem dX12_about_90 : decode cX12_about 90 = .ok (.iaload, 1) := by decide +kernel
theorem dX12_about_91 : decode cX12_about 91 = .ok (.ireturn, 1) := by decide +kernel
theorem dX12_about_92 : decode cX12_about 92 = .ok (.aload_n 0, 1) := by decide +kernel
theorem dX12_about_93 : decode cX12_about 93 = .ok (.iload_n 1, 1) := by decide +kernel
theorem dX12_about_94 : decode cX12_about 94 = .ok (.invokevirtual 215, 3) := by decide +kernel
theorem dX12_about_97 : decode cX12_about 97 = .ok (.ireturn, 1) := by decide +kernel
theorem dX12_about_98 : decode cX12_about 98 = .ok (.aload_n 0, 1) := by decide +kernel
theorem dX12_about_99 : decode cX12_about 99 = .ok (.iload_n 1, 1) := by decide +kernel
theorem dX12_about_100 : decode cX12_about 100 = .ok (.invokevirtual 218, 3) := by decide +kernel
theorem dX12_about_103 : decode cX12_about 103 = .ok (.ireturn, 1) := by decide +kernel
theorem dX12_about_104 : decode cX12_about 104 = .ok (.aload_n 0, 1) := by decide +kernel
theorem dX12_about_105 : decode cX12_about 105 = .ok (.getfield 49, 3) := by decide +kernel
theorem dX12_about_108 : decode cX12_about 108 = .ok (.iload_n 1, 1) := by decide +kernel
theorem dX12_about_109 : decode cX12_about 109 = .ok (.iaload, 1) := by decide +kernel
theorem dX12_about_110 : decode cX12_about 110 = .ok (.ireturn, 1) := by decide +kernel
theorem dX12_about_111 : decode cX12_about 111 = .ok (.aload_n 0, 1) := by decide +kernel
theorem dX12_about_112 : decode cX12_about 112 = .ok (.getfield 34, 3) := by decide +kernel
theorem dX12_about_115 : decode cX12_about 115 = .ok (.iload_n 1, 1) := by decide +kernel
theorem dX12_about_116 : decode cX12_about 116 = .ok (.iaload, 1) := by decide +kernel
theorem dX12_about_117 : decode cX12_about 117 = .ok (.ireturn, 1) := by decide +kernel
theorem dX12_about_118 : decode cX12_about 118 = .ok (.aload_n 0, 1) := by decide +kernel
theorem dX12_about_119 : decode cX12_about 119 = .ok (.getfield 52, 3) := by decide +kernel
theorem dX12_about_122 : decode cX12_about 122 = .ok (.iload_n 1, 1) := by decide +kernel
theorem dX12_about_123 : decode cX12_about 123 = .ok (.baload, 1) := by decide +kernel
theorem dX12_about_124 : decode cX12_about 124 = .ok (.ifCond .eq 7, 3) := by decide +kernel
theorem dX12_about_127 : decode cX12_about 127 = .ok (.iconst 1, 1) := by decide +kernel
theorem dX12_about_128 : decode cX12_about 128 = .ok (.goto 4, 3) := by decide +kernel
theorem dX12_about_131 : decode cX12_about 131 = .ok (.iconst 0, 1) := by decide +kernel
theorem dX12_about_132 : decode cX12_about 132 = .ok (.ireturn, 1) := by decide +kernel
theorem dX12_about_133 : decode cX12_about 133 = .ok (.aload_n 0, 1) := by decide +kernel
theorem dX12_about_134 : decode cX12_about 134 = .ok (.getfield 56, 3) := by decide +kernel
theorem dX12_about_137 : decode cX12_about 137 = .ok (.iload_n 1, 1) := by decide +kernel
theorem dX12_about_138 : decode cX12_about 138 = .ok (.iaload, 1) := by decide +kernel
theorem dX12_about_139 : decode cX12_about 139 = .ok (.ireturn, 1) := by decide +kernel
theorem dX12_about_140 : decode cX12_about 140 = .ok (.bipush (-2), 2) := by decide +kernel
theorem dX12_about_142 : decode cX12_about 142 = .ok (.ireturn, 1) := by decide +kernel
set_option maxRecDepth 100000 in
theorem ggX12_order_X12_noCylinder : GoodIn wsX12_order wsX12_noCylinder := goodIn_s _ [12, 13, 14, 10, 16, 17, 18, 19, 20, 21, 22, 23, 24, 25, 26, 27, 28, 29, 30, 31, 32, 33, 34, 35, 36, 37, 38, 39, 40, 41, 42, 43, 44, 45, 46, 47, 48, 49, 50, 51, 52, 53, 54, 55, 56, 57, 58, 59, 60, 61, 62, 63, 64, 65, 66, 67, 68, 69, 70, 71, 72, 73, 74, 75, 76, 77, 78, 79, 80, 81] [11, 15] (by decide +kernel) rfl (by decide +kernel)
set_option maxRecDepth 20000 in
theorem gX12_order_X12_noCylinder : GoodIn wsX12_order (wsV RX12 189 RX12 yX12_noCylinder wsX12_noCylinder) := goodIn_app (goodIn_of _ (by decide +kernel)) ggX12_order_X12_noCylinder
set_option maxRecDepth 100000 in
theorem ggX12_order_X12_in : GoodIn wsX12_order wsX12_in := goodIn_s _ [] [15] (by decide +kernel) rfl (by decide +kernel)
set_option maxRecDepth 20000 in
theorem gX12_order_X12_in : GoodIn wsX12_order (va_wsS RX12 150 yX12_in wsX12_in) := goodIn_app (goodIn_of _ (by decide +kernel)) ggX12_order_X12_in
theorem dX12_order_0 : decode cX12_order 0 = .ok (.aload_n 0, 1) := by decide +kernel
theorem dX12_order_1 : decode cX12_order 1 = .ok (.iload_n 1, 1) := by decide +kernel
theorem dX12_order_2 : decode cX12_order 2 = .ok (.invokevirtual 189, 3) := by decide +kernel
theorem dX12_order_5 : decode cX12_order 5 = .ok (.ifCond .ne 11, 3) := by decide +kernel
theorem dX12_order_8 : decode cX12_order 8 = .ok (.aload_n 0, 1) := by decide +kernel
theorem dX12_order_9 : decode cX12_order 9 = .ok (.iload_n 3, 1) := by decide +kernel
theorem dX12_order_10 : decode cX12_order 10 = .ok (.invokevirtual 189, 3) := by decide +kernel
theorem dX12_order_13 : decode cX12_order 13 = .ok (.ifCond .eq 5, 3) := by decide +kernel
theorem dX12_order_16 : decode cX12_order 16 = .ok (.iconst (-1), 1) := by decide +kernel
theorem dX12_order_17 : decode cX12_order 17 = .ok (.ireturn, 1) := by decide +kernel
theorem dX12_order_18 : decode cX12_order 18 = .ok (.iload_n 2, 1) := by decide +kernel
theorem dX12_order_19 : decode cX12_order 19 = .ok (.i2l, 1) := by decide +kernel
theorem dX12_order_20 : decode cX12_order 20 = .ok (.lconst 0, 1) := by decide +kernel
theorem dX12_order_21 : decode cX12_order 21 = .ok (.ldc2_w 162, 3) := by decide +kernel
theorem dX12_order_24 : decode cX12_order 24 = .ok (.invokestatic 150, 3) := by decide +kernel
theorem dX12_order_27 : decode cX12_order 27 = .ok (.ifCond .eq 16, 3) := by decide +kernel
theorem dX12_order_30 : decode cX12_order 30 = .ok (.iload 4, 2) := by decide +kernel
theorem dX12_order_32 : decode cX12_order 32 = .ok (.i2l, 1) := by decide +kernel
theorem dX12_order_33 : decode cX12_order 33 = .ok (.lconst 0, 1) := by decide +kernel
theorem dX12_order_34 : decode cX12_order 34 = .ok (.ldc2_w 162, 3) := by decide +kernel
theorem dX12_order_37 : decode cX12_order 37 = .ok (.invokestatic 150, 3) := by decide +kernel
theorem dX12_order_40 : decode cX12_order 40 = .ok (.ifCond .ne 6, 3) := by decide +kernel
theorem dX12_order_43 : decode cX12_order 43 = .ok (.bipush (-2), 2) := by decide +kernel
theorem dX12_order_45 : decode cX12_order 45 = .ok (.ireturn, 1) := by decide +kernel
theorem dX12_order_46 : decode cX12_order 46 = .ok (.aload_n 0, 1) := by decide +kernel
theorem dX12_order_47 : decode cX12_order 47 = .ok (.getfield 221, 3) := by decide +kernel
theorem dX12_order_50 : decode cX12_order 50 = .ok (.bipush 30, 2) := by decide +kernel
theorem dX12_order_52 : decode cX12_order 52 = .ok (.if_icmp .ne 6, 3) := by decide +kernel
theorem dX12_order_55 : decode cX12_order 55 = .ok (.bipush (-4), 2) := by decide +kernel
theorem dX12_order_57 : decode cX12_order 57 = .ok (.ireturn, 1) := by decide +kernel
theorem dX12_order_58 : decode cX12_order 58 = .ok (.aload_n 0, 1) := by decide +kernel
theorem dX12_order_59 : decode cX12_order 59 = .ok (.getfield 59, 3) := by decide +kernel
theorem dX12_order_62 : decode cX12_order 62 = .ok (.aload_n 0, 1) := by decide +kernel
theorem dX12_order_63 : decode cX12_order 63 = .ok (.getfield 221, 3) := by decide +kernel
theorem dX12_order_66 : decode cX12_order 66 = .ok (.iload_n 1, 1) := by decide +kernel
theorem dX12_order_67 : decode cX12_order 67 = .ok (.iastore, 1) := by decide +kernel
theorem dX12_order_68 : decode cX12_order 68 = .ok (.aload_n 0, 1) := by decide +kernel
theorem dX12_order_69 : decode cX12_order 69 = .ok (.getfield 62, 3) := by decide +kernel
theorem dX12_order_72 : decode cX12_order 72 = .ok (.aload_n 0, 1) := by decide +kernel
theorem dX12_order_73 : decode cX12_order 73 = .ok (.getfield 221, 3) := by decide +kernel
theorem dX12_order_76 : decode cX12_order 76 = .ok (.iload_n 2, 1) := by decide +kernel
theorem dX12_order_77 : decode cX12_order 77 = .ok (.iastore, 1) := by decide +kernel
theorem dX12_order_78 : decode cX12_order 78 = .ok (.aload_n 0, 1) := by decide +kernel
theorem dX12_order_79 : decode cX12_order 79 = .ok (.getfield 65, 3) := by decide +kernel
theorem dX12_order_82 : decode cX12_order 82 = .ok (.aload_n 0, 1) := by decide +kernel
theorem dX12_order_83 : decode cX12_order 83 = .ok (.getfield 221, 3) := by decide +kernel
theorem dX12_order_86 : decode cX12_order 86 = .ok (.iload_n 3, 1) := by decide +kernel
theorem dX12_order_87 : decode cX12_order 87 = .ok (.iastore, 1) := by decide +kernel
theorem dX12_order_88 : decode cX12_order 88 = .ok (.aload_n 0, 1) := by decide +kernel
theorem dX12_order_89 : decode cX12_order 89 = .ok (.getfield 68, 3) := by decide +kernel
theorem dX12_order_92 : decode cX12_order 92 = .ok (.aload_n 0, 1) := by decide +kernel
theorem dX12_order_93 : decode cX12_order 93 = .ok (.getfield 221, 3) := by decide +kernel
theorem dX12_order_96 : decode cX12_order 96 = .ok (.iload 4, 2) := by decide +kernel
theorem dX12_order_98 : decode cX12_order 98 = .ok (.iastore, 1) := by decide +kernel
theorem dX12_order_99 : decode cX12_order 99 = .ok (.aload_n 0, 1) := by decide +kernel
theorem dX12_order_100 : decode cX12_order 100 = .ok (.dup, 1) := by decide +kernel
theorem dX12_order_101 : decode cX12_order 101 = .ok (.getfield 221, 3) := by decide +kernel
theorem dX12_order_104 : decode cX12_order 104 = .ok (.iconst 1, 1) := by decide +kernel
theorem dX12_order_105 : decode cX12_order 105 = .ok (.iadd, 1) := by decide +kernel
theorem dX12_order_106 : decode cX12_order 106 = .ok (.putfield 221, 3) := by decide +kernel
theorem dX12_order_109 : decode cX12_order 109 = .ok (.aload_n 0, 1) := by decide +kernel
theorem dX12_order_110 : decode cX12_order 110 = .ok (.getfield 221, 3) := by decide +kernel
theorem dX12_order_113 : decode cX12_order 113 = .ok (.ireturn, 1) := by decide +kernel
theorem dX12_waits_0 : decode cX12_waits 0 = .ok (.aload_n 0, 1) := by decide +kernel
theorem dX12_waits_1 : decode cX12_waits 1 = .ok (.getfield 224, 3) := by decide +kernel
theorem dX12_waits_4 : decode cX12_waits 4 = .ok (.ireturn, 1) := by decide +kernel
set_option maxRecDepth 100000 in
theorem ggX12_mayBeDone_X12_room : GoodIn wsX12_mayBeDone wsX12_room := goodIn_s _ [9, 10, 11, 12, 13, 14, 15, 16, 17, 18, 19, 20, 21, 22, 23, 24, 25, 26, 27, 28, 29, 30, 31, 32, 33, 34, 35, 36, 37, 38, 39, 40, 41, 42, 43, 44, 45, 46, 47, 48, 49, 50, 51, 52, 53, 54, 55, 56, 57, 58, 59, 60, 61, 62, 63, 64, 65, 66, 67, 68, 69, 70, 71, 72, 73, 74, 75, 76] [8] (by decide +kernel) rfl (by decide +kernel)
set_option maxRecDepth 20000 in
theorem gX12_mayBeDone_X12_room : GoodIn wsX12_mayBeDone (wsV RX12 198 RX12 yX12_room wsX12_room) := goodIn_app (goodIn_of _ (by decide +kernel)) ggX12_mayBeDone_X12_room
theorem dX12_mayBeDone_0 : decode cX12_mayBeDone 0 = .ok (.aload_n 0, 1) := by decide +kernel
theorem dX12_mayBeDone_1 : decode cX12_mayBeDone 1 = .ok (.getfield 59, 3) := by decide +kernel
theorem dX12_mayBeDone_4 : decode cX12_mayBeDone 4 = .ok (.iload_n 1, 1) := by decide +kernel
theorem dX12_mayBeDone_5 : decode cX12_mayBeDone 5 = .ok (.iaload, 1) := by decide +kernel
theorem dX12_mayBeDone_6 : decode cX12_mayBeDone 6 = .ok (.istore_n 2, 1) := by decide +kernel
theorem dX12_mayBeDone_7 : decode cX12_mayBeDone 7 = .ok (.aload_n 0, 1) := by decide +kernel
theorem dX12_mayBeDone_8 : decode cX12_mayBeDone 8 = .ok (.getfield 62, 3) := by decide +kernel
theorem dX12_mayBeDone_11 : decode cX12_mayBeDone 11 = .ok (.iload_n 1, 1) := by decide +kernel
theorem dX12_mayBeDone_12 : decode cX12_mayBeDone 12 = .ok (.iaload, 1) := by decide +kernel
theorem dX12_mayBeDone_13 : decode cX12_mayBeDone 13 = .ok (.ifCond .eq 39, 3) := by decide +kernel
theorem dX12_mayBeDone_16 : decode cX12_mayBeDone 16 = .ok (.aload_n 0, 1) := by decide +kernel
theorem dX12_mayBeDone_17 : decode cX12_mayBeDone 17 = .ok (.getfield 62, 3) := by decide +kernel
theorem dX12_mayBeDone_20 : decode cX12_mayBeDone 20 = .ok (.iload_n 1, 1) := by decide +kernel
theorem dX12_mayBeDone_21 : decode cX12_mayBeDone 21 = .ok (.iaload, 1) := by decide +kernel
theorem dX12_mayBeDone_22 : decode cX12_mayBeDone 22 = .ok (.iconst 1, 1) := by decide +kernel
theorem dX12_mayBeDone_23 : decode cX12_mayBeDone 23 = .ok (.if_icmp .ne 20, 3) := by decide +kernel
theorem dX12_mayBeDone_26 : decode cX12_mayBeDone 26 = .ok (.aload_n 0, 1) := by decide +kernel
theorem dX12_mayBeDone_27 : decode cX12_mayBeDone 27 = .ok (.getfield 31, 3) := by decide +kernel
theorem dX12_mayBeDone_30 : decode cX12_mayBeDone 30 = .ok (.iload_n 2, 1) := by decide +kernel
theorem dX12_mayBeDone_31 : decode cX12_mayBeDone 31 = .ok (.iaload, 1) := by decide +kernel
theorem dX12_mayBeDone_32 : decode cX12_mayBeDone 32 = .ok (.aload_n 0, 1) := by decide +kernel
theorem dX12_mayBeDone_33 : decode cX12_mayBeDone 33 = .ok (.iload_n 2, 1) := by decide +kernel
theorem dX12_mayBeDone_34 : decode cX12_mayBeDone 34 = .ok (.invokevirtual 198, 3) := by decide +kernel
theorem dX12_mayBeDone_37 : decode cX12_mayBeDone 37 = .ok (.if_icmp .ne 19, 3) := by decide +kernel
theorem dX12_mayBeDone_40 : decode cX12_mayBeDone 40 = .ok (.goto 12, 3) := by decide +kernel
theorem dX12_mayBeDone_43 : decode cX12_mayBeDone 43 = .ok (.aload_n 0, 1) := by decide +kernel
theorem dX12_mayBeDone_44 : decode cX12_mayBeDone 44 = .ok (.getfield 31, 3) := by decide +kernel
theorem dX12_mayBeDone_47 : decode cX12_mayBeDone 47 = .ok (.iload_n 2, 1) := by decide +kernel
theorem dX12_mayBeDone_48 : decode cX12_mayBeDone 48 = .ok (.iaload, 1) := by decide +kernel
theorem dX12_mayBeDone_49 : decode cX12_mayBeDone 49 = .ok (.ifCond .ne 7, 3) := by decide +kernel
theorem dX12_mayBeDone_52 : decode cX12_mayBeDone 52 = .ok (.iconst 1, 1) := by decide +kernel
theorem dX12_mayBeDone_53 : decode cX12_mayBeDone 53 = .ok (.goto 4, 3) := by decide +kernel
theorem dX12_mayBeDone_56 : decode cX12_mayBeDone 56 = .ok (.iconst 0, 1) := by decide +kernel
theorem dX12_mayBeDone_57 : decode cX12_mayBeDone 57 = .ok (.ireturn, 1) := by decide +kernel
set_option maxRecDepth 100000 in
theorem ggX12_loseFrom_X12_lesser : GoodIn wsX12_loseFrom wsX12_lesser := goodIn_s _ [] [6] (by decide +kernel) rfl (by decide +kernel)
set_option maxRecDepth 20000 in
theorem gX12_loseFrom_X12_lesser : GoodIn wsX12_loseFrom (va_wsS RX12 212 yX12_lesser wsX12_lesser) := goodIn_app (goodIn_of _ (by decide +kernel)) ggX12_loseFrom_X12_lesser
theorem dX12_loseFrom_0 : decode cX12_loseFrom 0 = .ok (.iload_n 2, 1) := by decide +kernel
theorem dX12_loseFrom_1 : decode cX12_loseFrom 1 = .ok (.aload_n 0, 1) := by decide +kernel
theorem dX12_loseFrom_2 : decode cX12_loseFrom 2 = .ok (.getfield 31, 3) := by decide +kernel
theorem dX12_loseFrom_5 : decode cX12_loseFrom 5 = .ok (.iload_n 1, 1) := by decide +kernel
theorem dX12_loseFrom_6 : decode cX12_loseFrom 6 = .ok (.iaload, 1) := by decide +kernel
theorem dX12_loseFrom_7 : decode cX12_loseFrom 7 = .ok (.invokestatic 212, 3) := by decide +kernel
theorem dX12_loseFrom_10 : decode cX12_loseFrom 10 = .ok (.istore_n 3, 1) := by decide +kernel
theorem dX12_loseFrom_11 : decode cX12_loseFrom 11 = .ok (.aload_n 0, 1) := by decide +kernel
theorem dX12_loseFrom_12 : decode cX12_loseFrom 12 = .ok (.getfield 31, 3) := by decide +kernel
theorem dX12_loseFrom_15 : decode cX12_loseFrom 15 = .ok (.iload_n 1, 1) := by decide +kernel
theorem dX12_loseFrom_16 : decode cX12_loseFrom 16 = .ok (.dup2, 1) := by decide +kernel
theorem dX12_loseFrom_17 : decode cX12_loseFrom 17 = .ok (.iaload, 1) := by decide +kernel
theorem dX12_loseFrom_18 : decode cX12_loseFrom 18 = .ok (.iload_n 3, 1) := by decide +kernel
theorem dX12_loseFrom_19 : decode cX12_loseFrom 19 = .ok (.isub, 1) := by decide +kernel
theorem dX12_loseFrom_20 : decode cX12_loseFrom 20 = .ok (.iastore, 1) := by decide +kernel
theorem dX12_loseFrom_21 : decode cX12_loseFrom 21 = .ok (.aload_n 0, 1) := by decide +kernel
theorem dX12_loseFrom_22 : decode cX12_loseFrom 22 = .ok (.getfield 56, 3) := by decide +kernel
theorem dX12_loseFrom_25 : decode cX12_loseFrom 25 = .ok (.iload_n 1, 1) := by decide +kernel
theorem dX12_loseFrom_26 : decode cX12_loseFrom 26 = .ok (.iload_n 3, 1) := by decide +kernel
theorem dX12_loseFrom_27 : decode cX12_loseFrom 27 = .ok (.ineg, 1) := by decide +kernel
theorem dX12_loseFrom_28 : decode cX12_loseFrom 28 = .ok (.iastore, 1) := by decide +kernel
theorem dX12_loseFrom_29 : decode cX12_loseFrom 29 = .ok (.return_, 1) := by decide +kernel
set_option maxRecDepth 100000 in
theorem ggX12_loseAll_X12_loseFrom : GoodIn wsX12_loseAll wsX12_loseFrom := goodIn_s _ [13, 2, 14, 15, 11, 29, 30, 31, 32, 33, 34, 35, 36, 37, 38, 39, 40, 41, 42, 43, 44, 45, 46, 47, 48, 49, 50, 51, 52, 53, 54, 55, 56, 57, 58, 59, 60, 61, 62, 63, 64, 65, 66, 67, 68, 69, 70, 71, 72, 73, 74, 75, 76, 77, 78, 79, 80, 81, 82, 83, 84, 85, 86, 87, 88, 89, 90, 91, 92, 93, 94] [12, 16] (by decide +kernel) rfl (by decide +kernel)
set_option maxRecDepth 20000 in
theorem gX12_loseAll_X12_loseFrom : GoodIn wsX12_loseAll (wsV RX12 227 RX12 yX12_loseFrom wsX12_loseFrom) := goodIn_app (goodIn_of _ (by decide +kernel)) ggX12_loseAll_X12_loseFrom
set_option maxRecDepth 100000 in
theorem ggX12_loseAll_X12_loadOf : GoodIn wsX12_loseAll wsX12_loadOf := goodIn_s _ [13, 21, 22, 23, 24, 25, 11, 27, 28, 14, 15, 29, 30, 31, 32, 33, 34, 35, 36, 37, 38, 39, 40, 41, 42, 43, 44, 45, 46, 47, 48, 49, 50, 51, 52, 53, 54, 55, 56, 57, 58, 59, 60, 61, 62, 63, 64, 65, 66, 67, 68, 69, 70, 71, 72, 73, 74, 75, 76, 77, 78, 79, 80, 81, 82, 83, 84, 85, 86, 87, 88, 89, 90, 91, 92, 93, 94] [20, 26, 16] (by decide +kernel) rfl (by decide +kernel)
set_option maxRecDepth 20000 in
theorem gX12_loseAll_X12_loadOf : GoodIn wsX12_loseAll (wsV RX12 215 RX12 yX12_loadOf wsX12_loadOf) := goodIn_app (goodIn_of _ (by decide +kernel)) ggX12_loseAll_X12_loadOf
theorem dX12_loseAll_0 : decode cX12_loseAll 0 = .ok (.iconst 0, 1) := by decide +kernel
theorem dX12_loseAll_1 : decode cX12_loseAll 1 = .ok (.istore_n 1, 1) := by decide +kernel
theorem dX12_loseAll_2 : decode cX12_loseAll 2 = .ok (.iload_n 1, 1) := by decide +kernel
theorem dX12_loseAll_3 : decode cX12_loseAll 3 = .ok (.aload_n 0, 1) := by decide +kernel
theorem dX12_loseAll_4 : decode cX12_loseAll 4 = .ok (.getfield 179, 3) := by decide +kernel
theorem dX12_loseAll_7 : decode cX12_loseAll 7 = .ok (.if_icmp .ge 113, 3) := by decide +kernel
theorem dX12_loseAll_10 : decode cX12_loseAll 10 = .ok (.aload_n 0, 1) := by decide +kernel
theorem dX12_loseAll_11 : decode cX12_loseAll 11 = .ok (.getfield 56, 3) := by decide +kernel
theorem dX12_loseAll_14 : decode cX12_loseAll 14 = .ok (.iload_n 1, 1) := by decide +kernel
theorem dX12_loseAll_15 : decode cX12_loseAll 15 = .ok (.iconst 0, 1) := by decide +kernel
theorem dX12_loseAll_16 : decode cX12_loseAll 16 = .ok (.iastore, 1) := by decide +kernel
theorem dX12_loseAll_17 : decode cX12_loseAll 17 = .ok (.aload_n 0, 1) := by decide +kernel
theorem dX12_loseAll_18 : decode cX12_loseAll 18 = .ok (.getfield 52, 3) := by decide +kernel
theorem dX12_loseAll_21 : decode cX12_loseAll 21 = .ok (.iload_n 1, 1) := by decide +kernel
theorem dX12_loseAll_22 : decode cX12_loseAll 22 = .ok (.baload, 1) := by decide +kernel
theorem dX12_loseAll_23 : decode cX12_loseAll 23 = .ok (.ifCond .eq 30, 3) := by decide +kernel
theorem dX12_loseAll_26 : decode cX12_loseAll 26 = .ok (.aload_n 0, 1) := by decide +kernel
theorem dX12_loseAll_27 : decode cX12_loseAll 27 = .ok (.iload_n 1, 1) := by decide +kernel
theorem dX12_loseAll_28 : decode cX12_loseAll 28 = .ok (.aload_n 0, 1) := by decide +kernel
theorem dX12_loseAll_29 : decode cX12_loseAll 29 = .ok (.getfield 22, 3) := by decide +kernel
theorem dX12_loseAll_32 : decode cX12_loseAll 32 = .ok (.iload_n 1, 1) := by decide +kernel
theorem dX12_loseAll_33 : decode cX12_loseAll 33 = .ok (.iaload, 1) := by decide +kernel
theorem dX12_loseAll_34 : decode cX12_loseAll 34 = .ok (.ifCond .ne 12, 3) := by decide +kernel
theorem dX12_loseAll_37 : decode cX12_loseAll 37 = .ok (.aload_n 0, 1) := by decide +kernel
theorem dX12_loseAll_38 : decode cX12_loseAll 38 = .ok (.getfield 43, 3) := by decide +kernel
theorem dX12_loseAll_41 : decode cX12_loseAll 41 = .ok (.iload_n 1, 1) := by decide +kernel
theorem dX12_loseAll_42 : decode cX12_loseAll 42 = .ok (.iaload, 1) := by decide +kernel
theorem dX12_loseAll_43 : decode cX12_loseAll 43 = .ok (.goto 4, 3) := by decide +kernel
theorem dX12_loseAll_46 : decode cX12_loseAll 46 = .ok (.iconst 0, 1) := by decide +kernel
theorem dX12_loseAll_47 : decode cX12_loseAll 47 = .ok (.invokevirtual 227, 3) := by decide +kernel
theorem dX12_loseAll_50 : decode cX12_loseAll 50 = .ok (.goto 64, 3) := by decide +kernel
theorem dX12_loseAll_53 : decode cX12_loseAll 53 = .ok (.aload_n 0, 1) := by decide +kernel
theorem dX12_loseAll_54 : decode cX12_loseAll 54 = .ok (.getfield 49, 3) := by decide +kernel
theorem dX12_loseAll_57 : decode cX12_loseAll 57 = .ok (.iload_n 1, 1) := by decide +kernel
theorem dX12_loseAll_58 : decode cX12_loseAll 58 = .ok (.iaload, 1) := by decide +kernel
theorem dX12_loseAll_59 : decode cX12_loseAll 59 = .ok (.iconst 2, 1) := by decide +kernel
theorem dX12_loseAll_60 : decode cX12_loseAll 60 = .ok (.if_icmp .ne 17, 3) := by decide +kernel
theorem dX12_loseAll_63 : decode cX12_loseAll 63 = .ok (.aload_n 0, 1) := by decide +kernel
theorem dX12_loseAll_64 : decode cX12_loseAll 64 = .ok (.iload_n 1, 1) := by decide +kernel
theorem dX12_loseAll_65 : decode cX12_loseAll 65 = .ok (.aload_n 0, 1) := by decide +kernel
theorem dX12_loseAll_66 : decode cX12_loseAll 66 = .ok (.getfield 43, 3) := by decide +kernel
theorem dX12_loseAll_69 : decode cX12_loseAll 69 = .ok (.iload_n 1, 1) := by decide +kernel
theorem dX12_loseAll_70 : decode cX12_loseAll 70 = .ok (.iaload, 1) := by decide +kernel
theorem dX12_loseAll_71 : decode cX12_loseAll 71 = .ok (.invokevirtual 227, 3) := by decide +kernel
theorem dX12_loseAll_74 : decode cX12_loseAll 74 = .ok (.goto 40, 3) := by decide +kernel
theorem dX12_loseAll_77 : decode cX12_loseAll 77 = .ok (.aload_n 0, 1) := by decide +kernel
theorem dX12_loseAll_78 : decode cX12_loseAll 78 = .ok (.getfield 49, 3) := by decide +kernel
theorem dX12_loseAll_81 : decode cX12_loseAll 81 = .ok (.iload_n 1, 1) := by decide +kernel
theorem dX12_loseAll_82 : decode cX12_loseAll 82 = .ok (.iaload, 1) := by decide +kernel
theorem dX12_loseAll_83 : decode cX12_loseAll 83 = .ok (.ifCond .ne 31, 3) := by decide +kernel
theorem dX12_loseAll_86 : decode cX12_loseAll 86 = .ok (.aload_n 0, 1) := by decide +kernel
theorem dX12_loseAll_87 : decode cX12_loseAll 87 = .ok (.getfield 22, 3) := by decide +kernel
theorem dX12_loseAll_90 : decode cX12_loseAll 90 = .ok (.iload_n 1, 1) := by decide +kernel
theorem dX12_loseAll_91 : decode cX12_loseAll 91 = .ok (.iaload, 1) := by decide +kernel
theorem dX12_loseAll_92 : decode cX12_loseAll 92 = .ok (.ifCond .ne 22, 3) := by decide +kernel
theorem dX12_loseAll_95 : decode cX12_loseAll 95 = .ok (.aload_n 0, 1) := by decide +kernel
theorem dX12_loseAll_96 : decode cX12_loseAll 96 = .ok (.iload_n 1, 1) := by decide +kernel
theorem dX12_loseAll_97 : decode cX12_loseAll 97 = .ok (.invokevirtual 215, 3) := by decide +kernel
theorem dX12_loseAll_100 : decode cX12_loseAll 100 = .ok (.ifCond .le 14, 3) := by decide +kernel
theorem dX12_loseAll_103 : decode cX12_loseAll 103 = .ok (.aload_n 0, 1) := by decide +kernel
theorem dX12_loseAll_104 : decode cX12_loseAll 104 = .ok (.iload_n 1, 1) := by decide +kernel
theorem dX12_loseAll_105 : decode cX12_loseAll 105 = .ok (.aload_n 0, 1) := by decide +kernel
theorem dX12_loseAll_106 : decode cX12_loseAll 106 = .ok (.getfield 46, 3) := by decide +kernel
theorem dX12_loseAll_109 : decode cX12_loseAll 109 = .ok (.iload_n 1, 1) := by decide +kernel
theorem dX12_loseAll_110 : decode cX12_loseAll 110 = .ok (.iaload, 1) := by decide +kernel
theorem dX12_loseAll_111 : decode cX12_loseAll 111 = .ok (.invokevirtual 227, 3) := by decide +kernel
theorem dX12_loseAll_114 : decode cX12_loseAll 114 = .ok (.iinc 1 1, 3) := by decide +kernel
theorem dX12_loseAll_117 : decode cX12_loseAll 117 = .ok (.goto (-115), 3) := by decide +kernel
theorem dX12_loseAll_120 : decode cX12_loseAll 120 = .ok (.return_, 1) := by decide +kernel
set_option maxRecDepth 100000 in
theorem ggX12_findMoving_X12_needOf : GoodIn wsX12_findMoving wsX12_needOf := goodIn_s _ [17, 18, 19, 20, 21, 22, 15, 6, 24, 25, 26, 27, 28, 30, 31, 32, 34, 35, 36, 37, 38, 39, 40, 41, 42, 43, 44, 45, 46, 47, 48, 49, 50, 51, 52, 53, 54, 55, 56, 57, 58, 59, 60, 61, 62, 63, 64, 65, 66, 67, 68, 69, 70, 71, 72, 73, 74, 75, 76, 77, 78, 79, 80, 81, 82, 83, 84, 85, 86, 87, 88, 89, 90, 91, 92, 93, 94, 95, 96, 97, 98, 99] [16, 23, 29, 33] (by decide +kernel) rfl (by decide +kernel)
set_option maxRecDepth 20000 in
theorem gX12_findMoving_X12_needOf : GoodIn wsX12_findMoving (wsV RX12 218 RX12 yX12_needOf wsX12_needOf) := goodIn_app (goodIn_of _ (by decide +kernel)) ggX12_findMoving_X12_needOf
set_option maxRecDepth 100000 in
theorem ggX12_findMoving_X12_room : GoodIn wsX12_findMoving wsX12_room := goodIn_s _ [17, 30, 34, 35, 36, 37, 38, 39, 40, 41, 42, 43, 44, 45, 46, 47, 48, 49, 50, 51, 52, 53, 54, 55, 56, 57, 58, 59, 60, 61, 62, 63, 64, 65, 66, 67, 68, 69, 70, 71, 72, 73, 74, 75, 76, 77, 78, 79, 80, 81, 82, 83, 84, 85, 86, 87, 88, 89, 90, 91, 92, 93, 94, 95, 96, 97, 98, 99] [29] (by decide +kernel) rfl (by decide +kernel)
set_option maxRecDepth 20000 in
theorem gX12_findMoving_X12_room : GoodIn wsX12_findMoving (wsV RX12 198 RX12 yX12_room wsX12_room) := goodIn_app (goodIn_of _ (by decide +kernel)) ggX12_findMoving_X12_room
set_option maxRecDepth 100000 in
theorem ggX12_findMoving_X12_lesser : GoodIn wsX12_findMoving wsX12_lesser := goodIn_s _ [] [33] (by decide +kernel) rfl (by decide +kernel)
set_option maxRecDepth 20000 in
theorem gX12_findMoving_X12_lesser : GoodIn wsX12_findMoving (va_wsS RX12 212 yX12_lesser wsX12_lesser) := goodIn_app (goodIn_of _ (by decide +kernel)) ggX12_findMoving_X12_lesser
theorem dX12_findMoving_0 : decode cX12_findMoving 0 = .ok (.aload_n 0, 1) := by decide +kernel
theorem dX12_findMoving_1 : decode cX12_findMoving 1 = .ok (.iconst 0, 1) := by decide +kernel
theorem dX12_findMoving_2 : decode cX12_findMoving 2 = .ok (.putfield 231, 3) := by decide +kernel
theorem dX12_findMoving_5 : decode cX12_findMoving 5 = .ok (.iconst 0, 1) := by decide +kernel
theorem dX12_findMoving_6 : decode cX12_findMoving 6 = .ok (.istore_n 1, 1) := by decide +kernel
theorem dX12_findMoving_7 : decode cX12_findMoving 7 = .ok (.iload_n 1, 1) := by decide +kernel
theorem dX12_findMoving_8 : decode cX12_findMoving 8 = .ok (.aload_n 0, 1) := by decide +kernel
theorem dX12_findMoving_9 : decode cX12_findMoving 9 = .ok (.getfield 179, 3) := by decide +kernel
theorem dX12_findMoving_12 : decode cX12_findMoving 12 = .ok (.if_icmp .ge 168, 3) := by decide +kernel
theorem dX12_findMoving_15 : decode cX12_findMoving 15 = .ok (.aload_n 0, 1) := by decide +kernel
theorem dX12_findMoving_16 : decode cX12_findMoving 16 = .ok (.getfield 77, 3) := by decide +kernel
theorem dX12_findMoving_19 : decode cX12_findMoving 19 = .ok (.iload_n 1, 1) := by decide +kernel
theorem dX12_findMoving_20 : decode cX12_findMoving 20 = .ok (.aload_n 0, 1) := by decide +kernel
theorem dX12_findMoving_21 : decode cX12_findMoving 21 = .ok (.iload_n 1, 1) := by decide +kernel
theorem dX12_findMoving_22 : decode cX12_findMoving 22 = .ok (.invokevirtual 218, 3) := by decide +kernel
theorem dX12_findMoving_25 : decode cX12_findMoving 25 = .ok (.iastore, 1) := by decide +kernel
theorem dX12_findMoving_26 : decode cX12_findMoving 26 = .ok (.aload_n 0, 1) := by decide +kernel
theorem dX12_findMoving_27 : decode cX12_findMoving 27 = .ok (.getfield 80, 3) := by decide +kernel
theorem dX12_findMoving_30 : decode cX12_findMoving 30 = .ok (.iload_n 1, 1) := by decide +kernel
theorem dX12_findMoving_31 : decode cX12_findMoving 31 = .ok (.aload_n 0, 1) := by decide +kernel
theorem dX12_findMoving_32 : decode cX12_findMoving 32 = .ok (.getfield 43, 3) := by decide +kernel
theorem dX12_findMoving_35 : decode cX12_findMoving 35 = .ok (.iload_n 1, 1) := by decide +kernel
theorem dX12_findMoving_36 : decode cX12_findMoving 36 = .ok (.iaload, 1) := by decide +kernel
theorem dX12_findMoving_37 : decode cX12_findMoving 37 = .ok (.aload_n 0, 1) := by decide +kernel
theorem dX12_findMoving_38 : decode cX12_findMoving 38 = .ok (.iload_n 1, 1) := by decide +kernel
theorem dX12_findMoving_39 : decode cX12_findMoving 39 = .ok (.invokevirtual 198, 3) := by decide +kernel
theorem dX12_findMoving_42 : decode cX12_findMoving 42 = .ok (.aload_n 0, 1) := by decide +kernel
theorem dX12_findMoving_43 : decode cX12_findMoving 43 = .ok (.getfield 31, 3) := by decide +kernel
theorem dX12_findMoving_46 : decode cX12_findMoving 46 = .ok (.iload_n 1, 1) := by decide +kernel
theorem dX12_findMoving_47 : decode cX12_findMoving 47 = .ok (.iaload, 1) := by decide +kernel
theorem dX12_findMoving_48 : decode cX12_findMoving 48 = .ok (.isub, 1) := by decide +kernel
theorem dX12_findMoving_49 : decode cX12_findMoving 49 = .ok (.invokestatic 212, 3) := by decide +kernel
theorem dX12_findMoving_52 : decode cX12_findMoving 52 = .ok (.iastore, 1) := by decide +kernel
theorem dX12_findMoving_53 : decode cX12_findMoving 53 = .ok (.aload_n 0, 1) := by decide +kernel
theorem dX12_findMoving_54 : decode cX12_findMoving 54 = .ok (.getfield 83, 3) := by decide +kernel
theorem dX12_findMoving_57 : decode cX12_findMoving 57 = .ok (.iload_n 1, 1) := by decide +kernel
theorem dX12_findMoving_58 : decode cX12_findMoving 58 = .ok (.iconst 0, 1) := by decide +kernel
theorem dX12_findMoving_59 : decode cX12_findMoving 59 = .ok (.iastore, 1) := by decide +kernel
theorem dX12_findMoving_60 : decode cX12_findMoving 60 = .ok (.aload_n 0, 1) := by decide +kernel
theorem dX12_findMoving_61 : decode cX12_findMoving 61 = .ok (.getfield 49, 3) := by decide +kernel
theorem dX12_findMoving_64 : decode cX12_findMoving 64 = .ok (.iload_n 1, 1) := by decide +kernel
theorem dX12_findMoving_65 : decode cX12_findMoving 65 = .ok (.iaload, 1) := by decide +kernel
theorem dX12_findMoving_66 : decode cX12_findMoving 66 = .ok (.iconst 1, 1) := by decide +kernel
theorem dX12_findMoving_67 : decode cX12_findMoving 67 = .ok (.if_icmp .ne 107, 3) := by decide +kernel
theorem dX12_findMoving_70 : decode cX12_findMoving 70 = .ok (.aload_n 0, 1) := by decide +kernel
theorem dX12_findMoving_71 : decode cX12_findMoving 71 = .ok (.getfield 52, 3) := by decide +kernel
theorem dX12_findMoving_74 : decode cX12_findMoving 74 = .ok (.iload_n 1, 1) := by decide +kernel
theorem dX12_findMoving_75 : decode cX12_findMoving 75 = .ok (.baload, 1) := by decide +kernel
theorem dX12_findMoving_76 : decode cX12_findMoving 76 = .ok (.ifCond .ne 98, 3) := by decide +kernel
theorem dX12_findMoving_79 : decode cX12_findMoving 79 = .ok (.aload_n 0, 1) := by decide +kernel
theorem dX12_findMoving_80 : decode cX12_findMoving 80 = .ok (.getfield 31, 3) := by decide +kernel
theorem dX12_findMoving_83 : decode cX12_findMoving 83 = .ok (.iload_n 1, 1) := by decide +kernel
theorem dX12_findMoving_84 : decode cX12_findMoving 84 = .ok (.iaload, 1) := by decide +kernel
theorem dX12_findMoving_85 : decode cX12_findMoving 85 = .ok (.aload_n 0, 1) := by decide +kernel
theorem dX12_findMoving_86 : decode cX12_findMoving 86 = .ok (.iload_n 1, 1) := by decide +kernel
theorem dX12_findMoving_87 : decode cX12_findMoving 87 = .ok (.invokevirtual 198, 3) := by decide +kernel
theorem dX12_findMoving_90 : decode cX12_findMoving 90 = .ok (.if_icmp .ge 84, 3) := by decide +kernel
theorem dX12_findMoving_93 : decode cX12_findMoving 93 = .ok (.aload_n 0, 1) := by decide +kernel
theorem dX12_findMoving_94 : decode cX12_findMoving 94 = .ok (.getfield 77, 3) := by decide +kernel
theorem dX12_findMoving_97 : decode cX12_findMoving 97 = .ok (.iload_n 1, 1) := by decide +kernel
theorem dX12_findMoving_98 : decode cX12_findMoving 98 = .ok (.iaload, 1) := by decide +kernel
theorem dX12_findMoving_99 : decode cX12_findMoving 99 = .ok (.aload_n 0, 1) := by decide +kernel
theorem dX12_findMoving_100 : decode cX12_findMoving 100 = .ok (.getfield 129, 3) := by decide +kernel
theorem dX12_findMoving_103 : decode cX12_findMoving 103 = .ok (.if_icmp .gt 71, 3) := by decide +kernel
theorem dX12_findMoving_106 : decode cX12_findMoving 106 = .ok (.aload_n 0, 1) := by decide +kernel
theorem dX12_findMoving_107 : decode cX12_findMoving 107 = .ok (.getfield 231, 3) := by decide +kernel
theorem dX12_findMoving_110 : decode cX12_findMoving 110 = .ok (.istore_n 2, 1) := by decide +kernel
theorem dX12_findMoving_111 : decode cX12_findMoving 111 = .ok (.iload_n 2, 1) := by decide +kernel
theorem dX12_findMoving_112 : decode cX12_findMoving 112 = .ok (.ifCond .le 45, 3) := by decide +kernel
theorem dX12_findMoving_115 : decode cX12_findMoving 115 = .ok (.aload_n 0, 1) := by decide +kernel
theorem dX12_findMoving_116 : decode cX12_findMoving 116 = .ok (.getfield 77, 3) := by decide +kernel
theorem dX12_findMoving_119 : decode cX12_findMoving 119 = .ok (.aload_n 0, 1) := by decide +kernel
theorem dX12_findMoving_120 : decode cX12_findMoving 120 = .ok (.getfield 74, 3) := by decide +kernel
theorem dX12_findMoving_123 : decode cX12_findMoving 123 = .ok (.iload_n 2, 1) := by decide +kernel
theorem dX12_findMoving_124 : decode cX12_findMoving 124 = .ok (.iconst 1, 1) := by decide +kernel
theorem dX12_findMoving_125 : decode cX12_findMoving 125 = .ok (.isub, 1) := by decide +kernel
theorem dX12_findMoving_126 : decode cX12_findMoving 126 = .ok (.iaload, 1) := by decide +kernel
theorem dX12_findMoving_127 : decode cX12_findMoving 127 = .ok (.iaload, 1) := by decide +kernel
theorem dX12_findMoving_128 : decode cX12_findMoving 128 = .ok (.aload_n 0, 1) := by decide +kernel
theorem dX12_findMoving_129 : decode cX12_findMoving 129 = .ok (.getfield 77, 3) := by decide +kernel
theorem dX12_findMoving_132 : decode cX12_findMoving 132 = .ok (.iload_n 1, 1) := by decide +kernel
theorem dX12_findMoving_133 : decode cX12_findMoving 133 = .ok (.iaload, 1) := by decide +kernel
theorem dX12_findMoving_134 : decode cX12_findMoving 134 = .ok (.if_icmp .le 23, 3) := by decide +kernel
theorem dX12_findMoving_137 : decode cX12_findMoving 137 = .ok (.aload_n 0, 1) := by decide +kernel
theorem dX12_findMoving_138 : decode cX12_findMoving 138 = .ok (.getfield 74, 3) := by decide +kernel
theorem dX12_findMoving_141 : decode cX12_findMoving 141 = .ok (.iload_n 2, 1) := by decide +kernel
theorem dX12_findMoving_142 : decode cX12_findMoving 142 = .ok (.aload_n 0, 1) := by decide +kernel
theorem dX12_findMoving_143 : decode cX12_findMoving 143 = .ok (.getfield 74, 3) := by decide +kernel
theorem dX12_findMoving_146 : decode cX12_findMoving 146 = .ok (.iload_n 2, 1) := by decide +kernel
theorem dX12_findMoving_147 : decode cX12_findMoving 147 = .ok (.iconst 1, 1) := by decide +kernel
theorem dX12_findMoving_148 : decode cX12_findMoving 148 = .ok (.isub, 1) := by decide +kernel
theorem dX12_findMoving_149 : decode cX12_findMoving 149 = .ok (.iaload, 1) := by decide +kernel
theorem dX12_findMoving_150 : decode cX12_findMoving 150 = .ok (.iastore, 1) := by decide +kernel
theorem dX12_findMoving_151 : decode cX12_findMoving 151 = .ok (.iinc 2 (-1), 3) := by decide +kernel
theorem dX12_findMoving_154 : decode cX12_findMoving 154 = .ok (.goto (-43), 3) := by decide +kernel
theorem dX12_findMoving_157 : decode cX12_findMoving 157 = .ok (.aload_n 0, 1) := by decide +kernel
theorem dX12_findMoving_158 : decode cX12_findMoving 158 = .ok (.getfield 74, 3) := by decide +kernel
theorem dX12_findMoving_161 : decode cX12_findMoving 161 = .ok (.iload_n 2, 1) := by decide +kernel
theorem dX12_findMoving_162 : decode cX12_findMoving 162 = .ok (.iload_n 1, 1) := by decide +kernel
theorem dX12_findMoving_163 : decode cX12_findMoving 163 = .ok (.iastore, 1) := by decide +kernel
theorem dX12_findMoving_164 : decode cX12_findMoving 164 = .ok (.aload_n 0, 1) := by decide +kernel
theorem dX12_findMoving_165 : decode cX12_findMoving 165 = .ok (.dup, 1) := by decide +kernel
theorem dX12_findMoving_166 : decode cX12_findMoving 166 = .ok (.getfield 231, 3) := by decide +kernel
theorem dX12_findMoving_169 : decode cX12_findMoving 169 = .ok (.iconst 1, 1) := by decide +kernel
theorem dX12_findMoving_170 : decode cX12_findMoving 170 = .ok (.iadd, 1) := by decide +kernel
theorem dX12_findMoving_171 : decode cX12_findMoving 171 = .ok (.putfield 231, 3) := by decide +kernel
theorem dX12_findMoving_174 : decode cX12_findMoving 174 = .ok (.iinc 1 1, 3) := by decide +kernel
theorem dX12_findMoving_177 : decode cX12_findMoving 177 = .ok (.goto (-170), 3) := by decide +kernel
theorem dX12_findMoving_180 : decode cX12_findMoving 180 = .ok (.return_, 1) := by decide +kernel
set_option maxRecDepth 100000 in
theorem ggX12_tickOnce_X12_mayBeDone : GoodIn wsX12_tickOnce wsX12_mayBeDone := goodIn_s _ [31, 32, 13, 33, 34, 35, 29, 37, 38, 76, 77, 78, 79, 80, 81, 82, 83, 84, 85, 86, 87, 88, 89, 90, 91, 92, 93, 94, 95, 96, 97, 98, 99, 100, 101, 102, 103, 104, 105, 106, 107, 108, 109, 110, 111, 112, 113, 114, 115, 116, 117, 118, 119, 120, 121, 122, 123, 124, 125, 126, 127, 128, 129, 130, 131, 132, 133, 134, 135, 136, 137, 138, 139, 140, 141] [30, 36] (by decide +kernel) rfl (by decide +kernel)
set_option maxRecDepth 20000 in
theorem gX12_tickOnce_X12_mayBeDone : GoodIn wsX12_tickOnce (wsV RX12 234 RX12 yX12_mayBeDone wsX12_mayBeDone) := goodIn_app (goodIn_of _ (by decide +kernel)) ggX12_tickOnce_X12_mayBeDone
set_option maxRecDepth 100000 in
theorem ggX12_tickOnce_X12_loseAll : GoodIn wsX12_tickOnce wsX12_loseAll := goodIn_s _ [43, 14, 44, 45, 46, 3, 47, 48, 49, 50, 29, 13, 52, 53, 55, 56, 57, 59, 60, 33, 34, 35, 37, 38, 76, 77, 78, 79, 80, 81, 82, 83, 84, 85, 86, 87, 88, 89, 90, 91, 92, 93, 94, 95, 96, 97, 98, 99, 100, 101, 102, 103, 104, 105, 106, 107, 108, 109, 110, 111, 112, 113, 114, 115, 116, 117, 118, 119, 120, 121, 122, 123, 124, 125, 126, 127, 128, 129, 130, 131, 132, 133, 134, 135, 136, 137, 138, 139, 140, 141] [42, 51, 54, 58, 36] (by decide +kernel) rfl (by decide +kernel)
set_option maxRecDepth 20000 in
theorem gX12_tickOnce_X12_loseAll : GoodIn wsX12_tickOnce (wsV RX12 237 RX12 yX12_loseAll wsX12_loseAll) := goodIn_app (goodIn_of _ (by decide +kernel)) ggX12_tickOnce_X12_loseAll
set_option maxRecDepth 100000 in
theorem ggX12_tickOnce_X12_findMoving : GoodIn wsX12_tickOnce wsX12_findMoving := goodIn_s _ [9, 43, 15, 12, 46, 13, 11, 3, 44, 17, 10, 65, 66, 67, 29, 37, 45, 69, 55, 56, 57, 59, 60, 33, 34, 35, 38, 52, 53, 76, 77, 78, 79, 80, 81, 82, 83, 84, 85, 86, 87, 88, 89, 90, 91, 92, 93, 94, 95, 96, 97, 98, 99, 100, 101, 102, 103, 104, 105, 106, 107, 108, 109, 110, 111, 112, 113, 114, 115, 116, 117, 118, 119, 120, 121, 122, 123, 124, 125, 126, 127, 128, 129, 130, 131, 132, 133, 134, 135, 136, 137, 138, 139, 140, 141] [64, 68, 58, 36, 54] (by decide +kernel) rfl (by decide +kernel)
set_option maxRecDepth 20000 in
theorem gX12_tickOnce_X12_findMoving : GoodIn wsX12_tickOnce (wsV RX12 240 RX12 yX12_findMoving wsX12_findMoving) := goodIn_app (goodIn_of _ (by decide +kernel)) ggX12_tickOnce_X12_findMoving
set_option maxRecDepth 100000 in
theorem ggX12_tickOnce_X12_lesser : GoodIn wsX12_tickOnce wsX12_lesser := goodIn_s _ [] [54] (by decide +kernel) rfl (by decide +kernel)
set_option maxRecDepth 20000 in
theorem gX12_tickOnce_X12_lesser : GoodIn wsX12_tickOnce (va_wsS RX12 212 yX12_lesser wsX12_lesser) := goodIn_app (goodIn_of _ (by decide +kernel)) ggX12_tickOnce_X12_lesser
set_option maxRecDepth 100000 in
theorem ggX12_tickOnce_X12_storePressure : GoodIn wsX12_tickOnce wsX12_storePressure := goodIn_s _ [74, 19, 75, 76, 77, 78, 79, 80, 81, 82, 83, 84, 85, 86, 87, 88, 89, 90, 91, 92, 93, 94, 95, 96, 97, 98, 99, 100, 101, 102, 103, 104, 105, 106, 107, 108, 109, 110, 111, 112, 113, 114, 115, 116, 117, 118, 119, 120, 121, 122, 123, 124, 125, 126, 127, 128, 129, 130, 131, 132, 133, 134, 135, 136, 137, 138, 139, 140, 141] [73] (by decide +kernel) rfl (by decide +kernel)
set_option maxRecDepth 20000 in
theorem gX12_tickOnce_X12_storePressure : GoodIn wsX12_tickOnce (wsV RX12 249 RX12 yX12_storePressure wsX12_storePressure) := goodIn_app (goodIn_of _ (by decide +kernel)) ggX12_tickOnce_X12_storePressure
theorem dX12_tickOnce_0 : decode cX12_tickOnce 0 = .ok (.aload_n 0, 1) := by decide +kernel
theorem dX12_tickOnce_1 : decode cX12_tickOnce 1 = .ok (.getfield 224, 3) := by decide +kernel
theorem dX12_tickOnce_4 : decode cX12_tickOnce 4 = .ok (.aload_n 0, 1) := by decide +kernel
theorem dX12_tickOnce_5 : decode cX12_tickOnce 5 = .ok (.getfield 221, 3) := by decide +kernel
theorem dX12_tickOnce_8 : decode cX12_tickOnce 8 = .ok (.if_icmp .ge 50, 3) := by decide +kernel
theorem dX12_tickOnce_11 : decode cX12_tickOnce 11 = .ok (.aload_n 0, 1) := by decide +kernel
theorem dX12_tickOnce_12 : decode cX12_tickOnce 12 = .ok (.aload_n 0, 1) := by decide +kernel
theorem dX12_tickOnce_13 : decode cX12_tickOnce 13 = .ok (.getfield 224, 3) := by decide +kernel
theorem dX12_tickOnce_16 : decode cX12_tickOnce 16 = .ok (.invokevirtual 234, 3) := by decide +kernel
theorem dX12_tickOnce_19 : decode cX12_tickOnce 19 = .ok (.ifCond .eq 39, 3) := by decide +kernel
theorem dX12_tickOnce_22 : decode cX12_tickOnce 22 = .ok (.aload_n 0, 1) := by decide +kernel
theorem dX12_tickOnce_23 : decode cX12_tickOnce 23 = .ok (.getfield 49, 3) := by decide +kernel
theorem dX12_tickOnce_26 : decode cX12_tickOnce 26 = .ok (.aload_n 0, 1) := by decide +kernel
theorem dX12_tickOnce_27 : decode cX12_tickOnce 27 = .ok (.getfield 65, 3) := by decide +kernel
theorem dX12_tickOnce_30 : decode cX12_tickOnce 30 = .ok (.aload_n 0, 1) := by decide +kernel
theorem dX12_tickOnce_31 : decode cX12_tickOnce 31 = .ok (.getfield 224, 3) := by decide +kernel
theorem dX12_tickOnce_34 : decode cX12_tickOnce 34 = .ok (.iaload, 1) := by decide +kernel
theorem dX12_tickOnce_35 : decode cX12_tickOnce 35 = .ok (.aload_n 0, 1) := by decide +kernel
theorem dX12_tickOnce_36 : decode cX12_tickOnce 36 = .ok (.getfield 68, 3) := by decide +kernel
theorem dX12_tickOnce_39 : decode cX12_tickOnce 39 = .ok (.aload_n 0, 1) := by decide +kernel
theorem dX12_tickOnce_40 : decode cX12_tickOnce 40 = .ok (.getfield 224, 3) := by decide +kernel
theorem dX12_tickOnce_43 : decode cX12_tickOnce 43 = .ok (.iaload, 1) := by decide +kernel
theorem dX12_tickOnce_44 : decode cX12_tickOnce 44 = .ok (.iastore, 1) := by decide +kernel
theorem dX12_tickOnce_45 : decode cX12_tickOnce 45 = .ok (.aload_n 0, 1) := by decide +kernel
theorem dX12_tickOnce_46 : decode cX12_tickOnce 46 = .ok (.dup, 1) := by decide +kernel
theorem dX12_tickOnce_47 : decode cX12_tickOnce 47 = .ok (.getfield 224, 3) := by decide +kernel
theorem dX12_tickOnce_50 : decode cX12_tickOnce 50 = .ok (.iconst 1, 1) := by decide +kernel
theorem dX12_tickOnce_51 : decode cX12_tickOnce 51 = .ok (.iadd, 1) := by decide +kernel
theorem dX12_tickOnce_52 : decode cX12_tickOnce 52 = .ok (.putfield 224, 3) := by decide +kernel
theorem dX12_tickOnce_55 : decode cX12_tickOnce 55 = .ok (.goto (-55), 3) := by decide +kernel
theorem dX12_tickOnce_58 : decode cX12_tickOnce 58 = .ok (.aload_n 0, 1) := by decide +kernel
theorem dX12_tickOnce_59 : decode cX12_tickOnce 59 = .ok (.invokevirtual 237, 3) := by decide +kernel
theorem dX12_tickOnce_62 : decode cX12_tickOnce 62 = .ok (.aload_n 0, 1) := by decide +kernel
theorem dX12_tickOnce_63 : decode cX12_tickOnce 63 = .ok (.invokevirtual 240, 3) := by decide +kernel
theorem dX12_tickOnce_66 : decode cX12_tickOnce 66 = .ok (.aload_n 0, 1) := by decide +kernel
theorem dX12_tickOnce_67 : decode cX12_tickOnce 67 = .ok (.getfield 184, 3) := by decide +kernel
theorem dX12_tickOnce_70 : decode cX12_tickOnce 70 = .ok (.istore_n 1, 1) := by decide +kernel
theorem dX12_tickOnce_71 : decode cX12_tickOnce 71 = .ok (.aload_n 0, 1) := by decide +kernel
theorem dX12_tickOnce_72 : decode cX12_tickOnce 72 = .ok (.iconst 0, 1) := by decide +kernel
theorem dX12_tickOnce_73 : decode cX12_tickOnce 73 = .ok (.putfield 243, 3) := by decide +kernel
theorem dX12_tickOnce_76 : decode cX12_tickOnce 76 = .ok (.aload_n 0, 1) := by decide +kernel
theorem dX12_tickOnce_77 : decode cX12_tickOnce 77 = .ok (.iconst 0, 1) := by decide +kernel
theorem dX12_tickOnce_78 : decode cX12_tickOnce 78 = .ok (.putfield 246, 3) := by decide +kernel
theorem dX12_tickOnce_81 : decode cX12_tickOnce 81 = .ok (.iconst 0, 1) := by decide +kernel
theorem dX12_tickOnce_82 : decode cX12_tickOnce 82 = .ok (.istore_n 2, 1) := by decide +kernel
theorem dX12_tickOnce_83 : decode cX12_tickOnce 83 = .ok (.iload_n 2, 1) := by decide +kernel
theorem dX12_tickOnce_84 : decode cX12_tickOnce 84 = .ok (.aload_n 0, 1) := by decide +kernel
theorem dX12_tickOnce_85 : decode cX12_tickOnce 85 = .ok (.getfield 231, 3) := by decide +kernel
theorem dX12_tickOnce_88 : decode cX12_tickOnce 88 = .ok (.if_icmp .ge 127, 3) := by decide +kernel
theorem dX12_tickOnce_91 : decode cX12_tickOnce 91 = .ok (.aload_n 0, 1) := by decide +kernel
theorem dX12_tickOnce_92 : decode cX12_tickOnce 92 = .ok (.getfield 74, 3) := by decide +kernel
theorem dX12_tickOnce_95 : decode cX12_tickOnce 95 = .ok (.iload_n 2, 1) := by decide +kernel
theorem dX12_tickOnce_96 : decode cX12_tickOnce 96 = .ok (.iaload, 1) := by decide +kernel
theorem dX12_tickOnce_97 : decode cX12_tickOnce 97 = .ok (.istore_n 3, 1) := by decide +kernel
theorem dX12_tickOnce_98 : decode cX12_tickOnce 98 = .ok (.aload_n 0, 1) := by decide +kernel
theorem dX12_tickOnce_99 : decode cX12_tickOnce 99 = .ok (.getfield 83, 3) := by decide +kernel
theorem dX12_tickOnce_102 : decode cX12_tickOnce 102 = .ok (.iload_n 3, 1) := by decide +kernel
theorem dX12_tickOnce_103 : decode cX12_tickOnce 103 = .ok (.aload_n 0, 1) := by decide +kernel
theorem dX12_tickOnce_104 : decode cX12_tickOnce 104 = .ok (.getfield 80, 3) := by decide +kernel
theorem dX12_tickOnce_107 : decode cX12_tickOnce 107 = .ok (.iload_n 3, 1) := by decide +kernel
theorem dX12_tickOnce_108 : decode cX12_tickOnce 108 = .ok (.iaload, 1) := by decide +kernel
theorem dX12_tickOnce_109 : decode cX12_tickOnce 109 = .ok (.iload_n 1, 1) := by decide +kernel
theorem dX12_tickOnce_110 : decode cX12_tickOnce 110 = .ok (.invokestatic 212, 3) := by decide +kernel
theorem dX12_tickOnce_113 : decode cX12_tickOnce 113 = .ok (.iastore, 1) := by decide +kernel
theorem dX12_tickOnce_114 : decode cX12_tickOnce 114 = .ok (.iload_n 1, 1) := by decide +kernel
theorem dX12_tickOnce_115 : decode cX12_tickOnce 115 = .ok (.aload_n 0, 1) := by decide +kernel
theorem dX12_tickOnce_116 : decode cX12_tickOnce 116 = .ok (.getfield 83, 3) := by decide +kernel
theorem dX12_tickOnce_119 : decode cX12_tickOnce 119 = .ok (.iload_n 3, 1) := by decide +kernel
theorem dX12_tickOnce_120 : decode cX12_tickOnce 120 = .ok (.iaload, 1) := by decide +kernel
theorem dX12_tickOnce_121 : decode cX12_tickOnce 121 = .ok (.isub, 1) := by decide +kernel
theorem dX12_tickOnce_122 : decode cX12_tickOnce 122 = .ok (.istore_n 1, 1) := by decide +kernel
theorem dX12_tickOnce_123 : decode cX12_tickOnce 123 = .ok (.aload_n 0, 1) := by decide +kernel
theorem dX12_tickOnce_124 : decode cX12_tickOnce 124 = .ok (.getfield 31, 3) := by decide +kernel
theorem dX12_tickOnce_127 : decode cX12_tickOnce 127 = .ok (.iload_n 3, 1) := by decide +kernel
theorem dX12_tickOnce_128 : decode cX12_tickOnce 128 = .ok (.dup2, 1) := by decide +kernel
theorem dX12_tickOnce_129 : decode cX12_tickOnce 129 = .ok (.iaload, 1) := by decide +kernel
theorem dX12_tickOnce_130 : decode cX12_tickOnce 130 = .ok (.aload_n 0, 1) := by decide +kernel
theorem dX12_tickOnce_131 : decode cX12_tickOnce 131 = .ok (.getfield 83, 3) := by decide +kernel
theorem dX12_tickOnce_134 : decode cX12_tickOnce 134 = .ok (.iload_n 3, 1) := by decide +kernel
theorem dX12_tickOnce_135 : decode cX12_tickOnce 135 = .ok (.iaload, 1) := by decide +kernel
theorem dX12_tickOnce_136 : decode cX12_tickOnce 136 = .ok (.iadd, 1) := by decide +kernel
theorem dX12_tickOnce_137 : decode cX12_tickOnce 137 = .ok (.iastore, 1) := by decide +kernel
theorem dX12_tickOnce_138 : decode cX12_tickOnce 138 = .ok (.aload_n 0, 1) := by decide +kernel
theorem dX12_tickOnce_139 : decode cX12_tickOnce 139 = .ok (.getfield 56, 3) := by decide +kernel
theorem dX12_tickOnce_142 : decode cX12_tickOnce 142 = .ok (.iload_n 3, 1) := by decide +kernel
theorem dX12_tickOnce_143 : decode cX12_tickOnce 143 = .ok (.aload_n 0, 1) := by decide +kernel
theorem dX12_tickOnce_144 : decode cX12_tickOnce 144 = .ok (.getfield 83, 3) := by decide +kernel
theorem dX12_tickOnce_147 : decode cX12_tickOnce 147 = .ok (.iload_n 3, 1) := by decide +kernel
theorem dX12_tickOnce_148 : decode cX12_tickOnce 148 = .ok (.iaload, 1) := by decide +kernel
theorem dX12_tickOnce_149 : decode cX12_tickOnce 149 = .ok (.iastore, 1) := by decide +kernel
theorem dX12_tickOnce_150 : decode cX12_tickOnce 150 = .ok (.aload_n 0, 1) := by decide +kernel
theorem dX12_tickOnce_151 : decode cX12_tickOnce 151 = .ok (.getfield 83, 3) := by decide +kernel
theorem dX12_tickOnce_154 : decode cX12_tickOnce 154 = .ok (.iload_n 3, 1) := by decide +kernel
theorem dX12_tickOnce_155 : decode cX12_tickOnce 155 = .ok (.iaload, 1) := by decide +kernel
theorem dX12_tickOnce_156 : decode cX12_tickOnce 156 = .ok (.ifCond .le 53, 3) := by decide +kernel
theorem dX12_tickOnce_159 : decode cX12_tickOnce 159 = .ok (.aload_n 0, 1) := by decide +kernel
theorem dX12_tickOnce_160 : decode cX12_tickOnce 160 = .ok (.aload_n 0, 1) := by decide +kernel
theorem dX12_tickOnce_161 : decode cX12_tickOnce 161 = .ok (.getfield 77, 3) := by decide +kernel
theorem dX12_tickOnce_164 : decode cX12_tickOnce 164 = .ok (.iload_n 3, 1) := by decide +kernel
theorem dX12_tickOnce_165 : decode cX12_tickOnce 165 = .ok (.iaload, 1) := by decide +kernel
theorem dX12_tickOnce_166 : decode cX12_tickOnce 166 = .ok (.aload_n 0, 1) := by decide +kernel
theorem dX12_tickOnce_167 : decode cX12_tickOnce 167 = .ok (.getfield 243, 3) := by decide +kernel
theorem dX12_tickOnce_170 : decode cX12_tickOnce 170 = .ok (.if_icmp .le 12, 3) := by decide +kernel
theorem dX12_tickOnce_173 : decode cX12_tickOnce 173 = .ok (.aload_n 0, 1) := by decide +kernel
theorem dX12_tickOnce_174 : decode cX12_tickOnce 174 = .ok (.getfield 77, 3) := by decide +kernel
theorem dX12_tickOnce_177 : decode cX12_tickOnce 177 = .ok (.iload_n 3, 1) := by decide +kernel
theorem dX12_tickOnce_178 : decode cX12_tickOnce 178 = .ok (.iaload, 1) := by decide +kernel
theorem dX12_tickOnce_179 : decode cX12_tickOnce 179 = .ok (.goto 7, 3) := by decide +kernel
theorem dX12_tickOnce_182 : decode cX12_tickOnce 182 = .ok (.aload_n 0, 1) := by decide +kernel
theorem dX12_tickOnce_183 : decode cX12_tickOnce 183 = .ok (.getfield 243, 3) := by decide +kernel
theorem dX12_tickOnce_186 : decode cX12_tickOnce 186 = .ok (.putfield 243, 3) := by decide +kernel
theorem dX12_tickOnce_189 : decode cX12_tickOnce 189 = .ok (.aload_n 0, 1) := by decide +kernel
theorem dX12_tickOnce_190 : decode cX12_tickOnce 190 = .ok (.getfield 71, 3) := by decide +kernel
theorem dX12_tickOnce_193 : decode cX12_tickOnce 193 = .ok (.aload_n 0, 1) := by decide +kernel
theorem dX12_tickOnce_194 : decode cX12_tickOnce 194 = .ok (.getfield 246, 3) := by decide +kernel
theorem dX12_tickOnce_197 : decode cX12_tickOnce 197 = .ok (.iload_n 3, 1) := by decide +kernel
theorem dX12_tickOnce_198 : decode cX12_tickOnce 198 = .ok (.iastore, 1) := by decide +kernel
theorem dX12_tickOnce_199 : decode cX12_tickOnce 199 = .ok (.aload_n 0, 1) := by decide +kernel
theorem dX12_tickOnce_200 : decode cX12_tickOnce 200 = .ok (.dup, 1) := by decide +kernel
theorem dX12_tickOnce_201 : decode cX12_tickOnce 201 = .ok (.getfield 246, 3) := by decide +kernel
theorem dX12_tickOnce_204 : decode cX12_tickOnce 204 = .ok (.iconst 1, 1) := by decide +kernel
theorem dX12_tickOnce_205 : decode cX12_tickOnce 205 = .ok (.iadd, 1) := by decide +kernel
theorem dX12_tickOnce_206 : decode cX12_tickOnce 206 = .ok (.putfield 246, 3) := by decide +kernel
theorem dX12_tickOnce_209 : decode cX12_tickOnce 209 = .ok (.iinc 2 1, 3) := by decide +kernel
theorem dX12_tickOnce_212 : decode cX12_tickOnce 212 = .ok (.goto (-129), 3) := by decide +kernel
theorem dX12_tickOnce_215 : decode cX12_tickOnce 215 = .ok (.iload_n 1, 1) := by decide +kernel
theorem dX12_tickOnce_216 : decode cX12_tickOnce 216 = .ok (.ifCond .ne 7, 3) := by decide +kernel
theorem dX12_tickOnce_219 : decode cX12_tickOnce 219 = .ok (.iconst 1, 1) := by decide +kernel
theorem dX12_tickOnce_220 : decode cX12_tickOnce 220 = .ok (.goto 4, 3) := by decide +kernel
theorem dX12_tickOnce_223 : decode cX12_tickOnce 223 = .ok (.iconst 0, 1) := by decide +kernel
theorem dX12_tickOnce_224 : decode cX12_tickOnce 224 = .ok (.istore_n 2, 1) := by decide +kernel
