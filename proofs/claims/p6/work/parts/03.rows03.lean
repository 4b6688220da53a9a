theorem dX11_told_78 : decode cX11_told 78 = .ok (.invokevirtual 307, 3) := by decide +kernel
theorem dX11_told_81 : decode cX11_told 81 = .ok (.ireturn, 1) := by decide +kernel
theorem dX11_told_82 : decode cX11_told 82 = .ok (.aload_n 0, 1) := by decide +kernel
theorem dX11_told_83 : decode cX11_told 83 = .ok (.getfield 12, 3) := by decide +kernel
theorem dX11_told_86 : decode cX11_told 86 = .ok (.iconst 2, 1) := by decide +kernel
theorem dX11_told_87 : decode cX11_told 87 = .ok (.aload_n 0, 1) := by decide +kernel
theorem dX11_told_88 : decode cX11_told 88 = .ok (.getfield 21, 3) := by decide +kernel
theorem dX11_told_91 : decode cX11_told 91 = .ok (.invokevirtual 307, 3) := by decide +kernel
theorem dX11_told_94 : decode cX11_told 94 = .ok (.ireturn, 1) := by decide +kernel
theorem dX11_told_95 : decode cX11_told 95 = .ok (.bipush (-2), 2) := by decide +kernel
theorem dX11_told_97 : decode cX11_told 97 = .ok (.ireturn, 1) := by decide +kernel
theorem dX11_get_0 : decode cX11_get 0 = .ok (.iload_n 1, 1) := by decide +kernel
theorem dX11_get_1 : decode cX11_get 1 = .ok (.ifCond .lt 15, 3) := by decide +kernel
theorem dX11_get_4 : decode cX11_get 4 = .ok (.iload_n 1, 1) := by decide +kernel
theorem dX11_get_5 : decode cX11_get 5 = .ok (.aload_n 0, 1) := by decide +kernel
theorem dX11_get_6 : decode cX11_get 6 = .ok (.arraylength, 1) := by decide +kernel
theorem dX11_get_7 : decode cX11_get 7 = .ok (.if_icmp .ge 9, 3) := by decide +kernel
theorem dX11_get_10 : decode cX11_get 10 = .ok (.aload_n 0, 1) := by decide +kernel
theorem dX11_get_11 : decode cX11_get 11 = .ok (.iload_n 1, 1) := by decide +kernel
theorem dX11_get_12 : decode cX11_get 12 = .ok (.iaload, 1) := by decide +kernel
theorem dX11_get_13 : decode cX11_get 13 = .ok (.goto 4, 3) := by decide +kernel
theorem dX11_get_16 : decode cX11_get 16 = .ok (.iconst 0, 1) := by decide +kernel
theorem dX11_get_17 : decode cX11_get 17 = .ok (.ireturn, 1) := by decide +kernel
theorem dX11_set_0 : decode cX11_set 0 = .ok (.iload_n 1, 1) := by decide +kernel
theorem dX11_set_1 : decode cX11_set 1 = .ok (.ifCond .lt 13, 3) := by decide +kernel
theorem dX11_set_4 : decode cX11_set 4 = .ok (.iload_n 1, 1) := by decide +kernel
theorem dX11_set_5 : decode cX11_set 5 = .ok (.aload_n 0, 1) := by decide +kernel
theorem dX11_set_6 : decode cX11_set 6 = .ok (.arraylength, 1) := by decide +kernel
theorem dX11_set_7 : decode cX11_set 7 = .ok (.if_icmp .ge 7, 3) := by decide +kernel
theorem dX11_set_10 : decode cX11_set 10 = .ok (.aload_n 0, 1) := by decide +kernel
theorem dX11_set_11 : decode cX11_set 11 = .ok (.iload_n 1, 1) := by decide +kernel
theorem dX11_set_12 : decode cX11_set 12 = .ok (.iload_n 2, 1) := by decide +kernel
theorem dX11_set_13 : decode cX11_set 13 = .ok (.iastore, 1) := by decide +kernel
theorem dX11_set_14 : decode cX11_set 14 = .ok (.return_, 1) := by decide +kernel
set_option maxRecDepth 100000 in
theorem ggX11_swap_X11_get : GoodIn wsX11_swap wsX11_get := goodIn_s _ [] [4] (by decide +kernel) rfl (by decide +kernel)
set_option maxRecDepth 20000 in
theorem gX11_swap_X11_get : GoodIn wsX11_swap (va_wsS RX11 181 yX11_get wsX11_get) := goodIn_app (goodIn_of _ (by decide +kernel)) ggX11_swap_X11_get
set_option maxRecDepth 100000 in
theorem ggX11_swap_X11_set : GoodIn wsX11_swap wsX11_set := goodIn_s _ [] [7] (by decide +kernel) rfl (by decide +kernel)
set_option maxRecDepth 20000 in
theorem gX11_swap_X11_set : GoodIn wsX11_swap (va_wsS RX11 266 yX11_set wsX11_set) := goodIn_app (goodIn_of _ (by decide +kernel)) ggX11_swap_X11_set
theorem dX11_swap_0 : decode cX11_swap 0 = .ok (.aload_n 0, 1) := by decide +kernel
theorem dX11_swap_1 : decode cX11_swap 1 = .ok (.iload_n 1, 1) := by decide +kernel
theorem dX11_swap_2 : decode cX11_swap 2 = .ok (.invokestatic 181, 3) := by decide +kernel
theorem dX11_swap_5 : decode cX11_swap 5 = .ok (.istore_n 3, 1) := by decide +kernel
theorem dX11_swap_6 : decode cX11_swap 6 = .ok (.aload_n 0, 1) := by decide +kernel
theorem dX11_swap_7 : decode cX11_swap 7 = .ok (.iload_n 1, 1) := by decide +kernel
theorem dX11_swap_8 : decode cX11_swap 8 = .ok (.iload_n 2, 1) := by decide +kernel
theorem dX11_swap_9 : decode cX11_swap 9 = .ok (.invokestatic 266, 3) := by decide +kernel
theorem dX11_swap_12 : decode cX11_swap 12 = .ok (.iload_n 3, 1) := by decide +kernel
theorem dX11_swap_13 : decode cX11_swap 13 = .ok (.ireturn, 1) := by decide +kernel
theorem dX11_within_0 : decode cX11_within 0 = .ok (.iload_n 0, 1) := by decide +kernel
theorem dX11_within_1 : decode cX11_within 1 = .ok (.iload_n 1, 1) := by decide +kernel
theorem dX11_within_2 : decode cX11_within 2 = .ok (.if_icmp .lt 12, 3) := by decide +kernel
theorem dX11_within_5 : decode cX11_within 5 = .ok (.iload_n 0, 1) := by decide +kernel
theorem dX11_within_6 : decode cX11_within 6 = .ok (.iload_n 2, 1) := by decide +kernel
theorem dX11_within_7 : decode cX11_within 7 = .ok (.if_icmp .gt 7, 3) := by decide +kernel
theorem dX11_within_10 : decode cX11_within 10 = .ok (.iconst 1, 1) := by decide +kernel
theorem dX11_within_11 : decode cX11_within 11 = .ok (.goto 4, 3) := by decide +kernel
theorem dX11_within_14 : decode cX11_within 14 = .ok (.iconst 0, 1) := by decide +kernel
theorem dX11_within_15 : decode cX11_within 15 = .ok (.ireturn, 1) := by decide +kernel
set_option maxRecDepth 100000 in
theorem ggX11_isLane_X11_within : GoodIn wsX11_isLane wsX11_within := goodIn_s _ [] [4] (by decide +kernel) rfl (by decide +kernel)
set_option maxRecDepth 20000 in
theorem gX11_isLane_X11_within : GoodIn wsX11_isLane (va_wsS RX11 73 yX11_within wsX11_within) := goodIn_app (goodIn_of _ (by decide +kernel)) ggX11_isLane_X11_within
theorem dX11_isLane_0 : decode cX11_isLane 0 = .ok (.iload_n 0, 1) := by decide +kernel
theorem dX11_isLane_1 : decode cX11_isLane 1 = .ok (.iconst 0, 1) := by decide +kernel
theorem dX11_isLane_2 : decode cX11_isLane 2 = .ok (.iconst 2, 1) := by decide +kernel
theorem dX11_isLane_3 : decode cX11_isLane 3 = .ok (.invokestatic 73, 3) := by decide +kernel
theorem dX11_isLane_6 : decode cX11_isLane 6 = .ok (.ireturn, 1) := by decide +kernel
theorem dX11_sheetAt_0 : decode cX11_sheetAt 0 = .ok (.iload_n 1, 1) := by decide +kernel
theorem dX11_sheetAt_1 : decode cX11_sheetAt 1 = .ok (.ifCond .lt 21, 3) := by decide +kernel
theorem dX11_sheetAt_4 : decode cX11_sheetAt 4 = .ok (.iload_n 1, 1) := by decide +kernel
theorem dX11_sheetAt_5 : decode cX11_sheetAt 5 = .ok (.aload_n 0, 1) := by decide +kernel
theorem dX11_sheetAt_6 : decode cX11_sheetAt 6 = .ok (.getfield 61, 3) := by decide +kernel
theorem dX11_sheetAt_9 : decode cX11_sheetAt 9 = .ok (.arraylength, 1) := by decide +kernel
theorem dX11_sheetAt_10 : decode cX11_sheetAt 10 = .ok (.if_icmp .ge 12, 3) := by decide +kernel
theorem dX11_sheetAt_13 : decode cX11_sheetAt 13 = .ok (.aload_n 0, 1) := by decide +kernel
theorem dX11_sheetAt_14 : decode cX11_sheetAt 14 = .ok (.getfield 61, 3) := by decide +kernel
theorem dX11_sheetAt_17 : decode cX11_sheetAt 17 = .ok (.iload_n 1, 1) := by decide +kernel
theorem dX11_sheetAt_18 : decode cX11_sheetAt 18 = .ok (.aaload, 1) := by decide +kernel
theorem dX11_sheetAt_19 : decode cX11_sheetAt 19 = .ok (.goto 4, 3) := by decide +kernel
theorem dX11_sheetAt_22 : decode cX11_sheetAt 22 = .ok (.aconst_null, 1) := by decide +kernel
theorem dX11_sheetAt_23 : decode cX11_sheetAt 23 = .ok (.areturn, 1) := by decide +kernel
theorem dX11_faulted_0 : decode cX11_faulted 0 = .ok (.aload_n 0, 1) := by decide +kernel
theorem dX11_faulted_1 : decode cX11_faulted 1 = .ok (.iload_n 1, 1) := by decide +kernel
theorem dX11_faulted_2 : decode cX11_faulted 2 = .ok (.putfield 110, 3) := by decide +kernel
theorem dX11_faulted_5 : decode cX11_faulted 5 = .ok (.bipush (-10), 2) := by decide +kernel
theorem dX11_faulted_7 : decode cX11_faulted 7 = .ok (.iload_n 1, 1) := by decide +kernel
theorem dX11_faulted_8 : decode cX11_faulted 8 = .ok (.isub, 1) := by decide +kernel
theorem dX11_faulted_9 : decode cX11_faulted 9 = .ok (.ireturn, 1) := by decide +kernel
theorem dX12_init_0 : decode cX12_init 0 = .ok (.aload_n 0, 1) := by decide +kernel
theorem dX12_init_1 : decode cX12_init 1 = .ok (.invokespecial 1, 3) := by decide +kernel
theorem dX12_init_4 : decode cX12_init 4 = .ok (.aload_n 0, 1) := by decide +kernel
theorem dX12_init_5 : decode cX12_init 5 = .ok (.iconst 4, 1) := by decide +kernel
theorem dX12_init_6 : decode cX12_init 6 = .ok (.newarray .int, 2) := by decide +kernel
theorem dX12_init_8 : decode cX12_init 8 = .ok (.putfield 7, 3) := by decide +kernel
theorem dX12_init_11 : decode cX12_init 11 = .ok (.aload_n 0, 1) := by decide +kernel
theorem dX12_init_12 : decode cX12_init 12 = .ok (.iconst 4, 1) := by decide +kernel
theorem dX12_init_13 : decode cX12_init 13 = .ok (.newarray .int, 2) := by decide +kernel
theorem dX12_init_15 : decode cX12_init 15 = .ok (.putfield 13, 3) := by decide +kernel
theorem dX12_init_18 : decode cX12_init 18 = .ok (.aload_n 0, 1) := by decide +kernel
theorem dX12_init_19 : decode cX12_init 19 = .ok (.bipush 80, 2) := by decide +kernel
theorem dX12_init_21 : decode cX12_init 21 = .ok (.newarray .int, 2) := by decide +kernel
theorem dX12_init_23 : decode cX12_init 23 = .ok (.putfield 16, 3) := by decide +kernel
theorem dX12_init_26 : decode cX12_init 26 = .ok (.aload_n 0, 1) := by decide +kernel
theorem dX12_init_27 : decode cX12_init 27 = .ok (.bipush 20, 2) := by decide +kernel
theorem dX12_init_29 : decode cX12_init 29 = .ok (.newarray .int, 2) := by decide +kernel
theorem dX12_init_31 : decode cX12_init 31 = .ok (.putfield 19, 3) := by decide +kernel
theorem dX12_init_34 : decode cX12_init 34 = .ok (.aload_n 0, 1) := by decide +kernel
theorem dX12_init_35 : decode cX12_init 35 = .ok (.bipush 6, 2) := by decide +kernel
theorem dX12_init_37 : decode cX12_init 37 = .ok (.newarray .int, 2) := by decide +kernel
theorem dX12_init_39 : decode cX12_init 39 = .ok (.putfield 22, 3) := by decide +kernel
theorem dX12_init_42 : decode cX12_init 42 = .ok (.aload_n 0, 1) := by decide +kernel
theorem dX12_init_43 : decode cX12_init 43 = .ok (.bipush 6, 2) := by decide +kernel
theorem dX12_init_45 : decode cX12_init 45 = .ok (.newarray .int, 2) := by decide +kernel
theorem dX12_init_47 : decode cX12_init 47 = .ok (.putfield 25, 3) := by decide +kernel
theorem dX12_init_50 : decode cX12_init 50 = .ok (.aload_n 0, 1) := by decide +kernel
theorem dX12_init_51 : decode cX12_init 51 = .ok (.bipush 6, 2) := by decide +kernel
theorem dX12_init_53 : decode cX12_init 53 = .ok (.newarray .int, 2) := by decide +kernel
theorem dX12_init_55 : decode cX12_init 55 = .ok (.putfield 28, 3) := by decide +kernel
theorem dX12_init_58 : decode cX12_init 58 = .ok (.aload_n 0, 1) := by decide +kernel
theorem dX12_init_59 : decode cX12_init 59 = .ok (.bipush 6, 2) := by decide +kernel
theorem dX12_init_61 : decode cX12_init 61 = .ok (.newarray .int, 2) := by decide +kernel
theorem dX12_init_63 : decode cX12_init 63 = .ok (.putfield 31, 3) := by decide +kernel
theorem dX12_init_66 : decode cX12_init 66 = .ok (.aload_n 0, 1) := by decide +kernel
theorem dX12_init_67 : decode cX12_init 67 = .ok (.bipush 6, 2) := by decide +kernel
theorem dX12_init_69 : decode cX12_init 69 = .ok (.newarray .int, 2) := by decide +kernel
theorem dX12_init_71 : decode cX12_init 71 = .ok (.putfield 34, 3) := by decide +kernel
theorem dX12_init_74 : decode cX12_init 74 = .ok (.aload_n 0, 1) := by decide +kernel
theorem dX12_init_75 : decode cX12_init 75 = .ok (.bipush 60, 2) := by decide +kernel
theorem dX12_init_77 : decode cX12_init 77 = .ok (.newarray .int, 2) := by decide +kernel
theorem dX12_init_79 : decode cX12_init 79 = .ok (.putfield 37, 3) := by decide +kernel
theorem dX12_init_82 : decode cX12_init 82 = .ok (.aload_n 0, 1) := by decide +kernel
theorem dX12_init_83 : decode cX12_init 83 = .ok (.bipush 6, 2) := by decide +kernel
theorem dX12_init_85 : decode cX12_init 85 = .ok (.newarray .int, 2) := by decide +kernel
theorem dX12_init_87 : decode cX12_init 87 = .ok (.putfield 40, 3) := by decide +kernel
theorem dX12_init_90 : decode cX12_init 90 = .ok (.aload_n 0, 1) := by decide +kernel
theorem dX12_init_91 : decode cX12_init 91 = .ok (.bipush 6, 2) := by decide +kernel
theorem dX12_init_93 : decode cX12_init 93 = .ok (.newarray .int, 2) := by decide +kernel
theorem dX12_init_95 : decode cX12_init 95 = .ok (.putfield 43, 3) := by decide +kernel
theorem dX12_init_98 : decode cX12_init 98 = .ok (.aload_n 0, 1) := by decide +kernel
theorem dX12_init_99 : decode cX12_init 99 = .ok (.bipush 6, 2) := by decide +kernel
theorem dX12_init_101 : decode cX12_init 101 = .ok (.newarray .int, 2) := by decide +kernel
theorem dX12_init_103 : decode cX12_init 103 = .ok (.putfield 46, 3) := by decide +kernel
theorem dX12_init_106 : decode cX12_init 106 = .ok (.aload_n 0, 1) := by decide +kernel
theorem dX12_init_107 : decode cX12_init 107 = .ok (.bipush 6, 2) := by decide +kernel
theorem dX12_init_109 : decode cX12_init 109 = .ok (.newarray .int, 2) := by decide +kernel
theorem dX12_init_111 : decode cX12_init 111 = .ok (.putfield 49, 3) := by decide +kernel
theorem dX12_init_114 : decode cX12_init 114 = .ok (.aload_n 0, 1) := by decide +kernel
theorem dX12_init_115 : decode cX12_init 115 = .ok (.bipush 6, 2) := by decide +kernel
theorem dX12_init_117 : decode cX12_init 117 = .ok (.newarray .boolean, 2) := by decide +kernel
theorem dX12_init_119 : decode cX12_init 119 = .ok (.putfield 52, 3) := by decide +kernel
theorem dX12_init_122 : decode cX12_init 122 = .ok (.aload_n 0, 1) := by decide +kernel
theorem dX12_init_123 : decode cX12_init 123 = .ok (.bipush 6, 2) := by decide +kernel
theorem dX12_init_125 : decode cX12_init 125 = .ok (.newarray .int, 2) := by decide +kernel
theorem dX12_init_127 : decode cX12_init 127 = .ok (.putfield 56, 3) := by decide +kernel
theorem dX12_init_130 : decode cX12_init 130 = .ok (.aload_n 0, 1) := by decide +kernel
theorem dX12_init_131 : decode cX12_init 131 = .ok (.bipush 30, 2) := by decide +kernel
theorem dX12_init_133 : decode cX12_init 133 = .ok (.newarray .int, 2) := by decide +kernel
theorem dX12_init_135 : decode cX12_init 135 = .ok (.putfield 59, 3) := by decide +kernel
theorem dX12_init_138 : decode cX12_init 138 = .ok (.aload_n 0, 1) := by decide +kernel
theorem dX12_init_139 : decode cX12_init 139 = .ok (.bipush 30, 2) := by decide +kernel
theorem dX12_init_141 : decode cX12_init 141 = .ok (.newarray .int, 2) := by decide +kernel
theorem dX12_init_143 : decode cX12_init 143 = .ok (.putfield 62, 3) := by decide +kernel
theorem dX12_init_146 : decode cX12_init 146 = .ok (.aload_n 0, 1) := by decide +kernel
theorem dX12_init_147 : decode cX12_init 147 = .ok (.bipush 30, 2) := by decide +kernel
theorem dX12_init_149 : decode cX12_init 149 = .ok (.newarray .int, 2) := by decide +kernel
theorem dX12_init_151 : decode cX12_init 151 = .ok (.putfield 65, 3) := by decide +kernel
theorem dX12_init_154 : decode cX12_init 154 = .ok (.aload_n 0, 1) := by decide +kernel
theorem dX12_init_155 : decode cX12_init 155 = .ok (.bipush 30, 2) := by decide +kernel
theorem dX12_init_157 : decode cX12_init 157 = .ok (.newarray .int, 2) := by decide +kernel
theorem dX12_init_159 : decode cX12_init 159 = .ok (.putfield 68, 3) := by decide +kernel
theorem dX12_init_162 : decode cX12_init 162 = .ok (.aload_n 0, 1) := by decide +kernel
theorem dX12_init_163 : decode cX12_init 163 = .ok (.bipush 6, 2) := by decide +kernel
theorem dX12_init_165 : decode cX12_init 165 = .ok (.newarray .int, 2) := by decide +kernel
theorem dX12_init_167 : decode cX12_init 167 = .ok (.putfield 71, 3) := by decide +kernel
theorem dX12_init_170 : decode cX12_init 170 = .ok (.aload_n 0, 1) := by decide +kernel
theorem dX12_init_171 : decode cX12_init 171 = .ok (.bipush 6, 2) := by decide +kernel
theorem dX12_init_173 : decode cX12_init 173 = .ok (.newarray .int, 2) := by decide +kernel
theorem dX12_init_175 : decode cX12_init 175 = .ok (.putfield 74, 3) := by decide +kernel
theorem dX12_init_178 : decode cX12_init 178 = .ok (.aload_n 0, 1) := by decide +kernel
theorem dX12_init_179 : decode cX12_init 179 = .ok (.bipush 6, 2) := by decide +kernel
theorem dX12_init_181 : decode cX12_init 181 = .ok (.newarray .int, 2) := by decide +kernel
theorem dX12_init_183 : decode cX12_init 183 = .ok (.putfield 77, 3) := by decide +kernel
theorem dX12_init_186 : decode cX12_init 186 = .ok (.aload_n 0, 1) := by decide +kernel
theorem dX12_init_187 : decode cX12_init 187 = .ok (.bipush 6, 2) := by decide +kernel
theorem dX12_init_189 : decode cX12_init 189 = .ok (.newarray .int, 2) := by decide +kernel
theorem dX12_init_191 : decode cX12_init 191 = .ok (.putfield 80, 3) := by decide +kernel
theorem dX12_init_194 : decode cX12_init 194 = .ok (.aload_n 0, 1) := by decide +kernel
theorem dX12_init_195 : decode cX12_init 195 = .ok (.bipush 6, 2) := by decide +kernel
theorem dX12_init_197 : decode cX12_init 197 = .ok (.newarray .int, 2) := by decide +kernel
theorem dX12_init_199 : decode cX12_init 199 = .ok (.putfield 83, 3) := by decide +kernel
theorem dX12_init_202 : decode cX12_init 202 = .ok (.aload_n 0, 1) := by decide +kernel
theorem dX12_init_203 : decode cX12_init 203 = .ok (.bipush 6, 2) := by decide +kernel
theorem dX12_init_205 : decode cX12_init 205 = .ok (.newarray .int, 2) := by decide +kernel
theorem dX12_init_207 : decode cX12_init 207 = .ok (.putfield 86, 3) := by decide +kernel
theorem dX12_init_210 : decode cX12_init 210 = .ok (.aload_n 0, 1) := by decide +kernel
theorem dX12_init_211 : decode cX12_init 211 = .ok (.bipush 6, 2) := by decide +kernel
theorem dX12_init_213 : decode cX12_init 213 = .ok (.newarray .int, 2) := by decide +kernel
theorem dX12_init_215 : decode cX12_init 215 = .ok (.putfield 89, 3) := by decide +kernel
theorem dX12_init_218 : decode cX12_init 218 = .ok (.aload_n 0, 1) := by decide +kernel
theorem dX12_init_219 : decode cX12_init 219 = .ok (.bipush 6, 2) := by decide +kernel
theorem dX12_init_221 : decode cX12_init 221 = .ok (.newarray .boolean, 2) := by decide +kernel
theorem dX12_init_223 : decode cX12_init 223 = .ok (.putfield 92, 3) := by decide +kernel
theorem dX12_init_226 : decode cX12_init 226 = .ok (.aload_n 0, 1) := by decide +kernel
theorem dX12_init_227 : decode cX12_init 227 = .ok (.bipush 20, 2) := by decide +kernel
theorem dX12_init_229 : decode cX12_init 229 = .ok (.newarray .int, 2) := by decide +kernel
theorem dX12_init_231 : decode cX12_init 231 = .ok (.putfield 95, 3) := by decide +kernel
theorem dX12_init_234 : decode cX12_init 234 = .ok (.aload_n 0, 1) := by decide +kernel
theorem dX12_init_235 : decode cX12_init 235 = .ok (.bipush 20, 2) := by decide +kernel
theorem dX12_init_237 : decode cX12_init 237 = .ok (.newarray .int, 2) := by decide +kernel
theorem dX12_init_239 : decode cX12_init 239 = .ok (.putfield 98, 3) := by decide +kernel
theorem dX12_init_242 : decode cX12_init 242 = .ok (.aload_n 0, 1) := by decide +kernel
theorem dX12_init_243 : decode cX12_init 243 = .ok (.bipush 20, 2) := by decide +kernel
theorem dX12_init_245 : decode cX12_init 245 = .ok (.newarray .int, 2) := by decide +kernel
theorem dX12_init_247 : decode cX12_init 247 = .ok (.putfield 101, 3) := by decide +kernel
theorem dX12_init_250 : decode cX12_init 250 = .ok (.aload_n 0, 1) := by decide +kernel
theorem dX12_init_251 : decode cX12_init 251 = .ok (.bipush 6, 2) := by decide +kernel
theorem dX12_init_253 : decode cX12_init 253 = .ok (.newarray .int, 2) := by decide +kernel
theorem dX12_init_255 : decode cX12_init 255 = .ok (.putfield 104, 3) := by decide +kernel
theorem dX12_init_258 : decode cX12_init 258 = .ok (.aload_n 0, 1) := by decide +kernel
theorem dX12_init_259 : decode cX12_init 259 = .ok (.bipush 6, 2) := by decide +kernel
theorem dX12_init_261 : decode cX12_init 261 = .ok (.newarray .int, 2) := by decide +kernel
theorem dX12_init_263 : decode cX12_init 263 = .ok (.putfield 107, 3) := by decide +kernel
theorem dX12_init_266 : decode cX12_init 266 = .ok (.aload_n 0, 1) := by decide +kernel
theorem dX12_init_267 : decode cX12_init 267 = .ok (.bipush 6, 2) := by decide +kernel
theorem dX12_init_269 : decode cX12_init 269 = .ok (.newarray .int, 2) := by decide +kernel
theorem dX12_init_271 : decode cX12_init 271 = .ok (.putfield 110, 3) := by decide +kernel
theorem dX12_init_274 : decode cX12_init 274 = .ok (.aload_n 0, 1) := by decide +kernel
theorem dX12_init_275 : decode cX12_init 275 = .ok (.bipush 6, 2) := by decide +kernel
theorem dX12_init_277 : decode cX12_init 277 = .ok (.newarray .int, 2) := by decide +kernel
theorem dX12_init_279 : decode cX12_init 279 = .ok (.putfield 113, 3) := by decide +kernel
theorem dX12_init_282 : decode cX12_init 282 = .ok (.aload_n 0, 1) := by decide +kernel
theorem dX12_init_283 : decode cX12_init 283 = .ok (.bipush 6, 2) := by decide +kernel
theorem dX12_init_285 : decode cX12_init 285 = .ok (.newarray .int, 2) := by decide +kernel
theorem dX12_init_287 : decode cX12_init 287 = .ok (.putfield 116, 3) := by decide +kernel
theorem dX12_init_290 : decode cX12_init 290 = .ok (.aload_n 0, 1) := by decide +kernel
theorem dX12_init_291 : decode cX12_init 291 = .ok (.bipush 6, 2) := by decide +kernel
theorem dX12_init_293 : decode cX12_init 293 = .ok (.newarray .boolean, 2) := by decide +kernel
theorem dX12_init_295 : decode cX12_init 295 = .ok (.putfield 119, 3) := by decide +kernel
theorem dX12_init_298 : decode cX12_init 298 = .ok (.aload_n 0, 1) := by decide +kernel
theorem dX12_init_299 : decode cX12_init 299 = .ok (.bipush 6, 2) := by decide +kernel
theorem dX12_init_301 : decode cX12_init 301 = .ok (.newarray .int, 2) := by decide +kernel
theorem dX12_init_303 : decode cX12_init 303 = .ok (.putfield 122, 3) := by decide +kernel
theorem dX12_init_306 : decode cX12_init 306 = .ok (.aload_n 0, 1) := by decide +kernel
theorem dX12_init_307 : decode cX12_init 307 = .ok (.iconst 3, 1) := by decide +kernel
theorem dX12_init_308 : decode cX12_init 308 = .ok (.newarray .long, 2) := by decide +kernel
theorem dX12_init_310 : decode cX12_init 310 = .ok (.putfield 125, 3) := by decide +kernel
theorem dX12_init_313 : decode cX12_init 313 = .ok (.aload_n 0, 1) := by decide +kernel
theorem dX12_init_314 : decode cX12_init 314 = .ok (.bipush 100, 2) := by decide +kernel
theorem dX12_init_316 : decode cX12_init 316 = .ok (.putfield 129, 3) := by decide +kernel
theorem dX12_init_319 : decode cX12_init 319 = .ok (.aload_n 0, 1) := by decide +kernel
theorem dX12_init_320 : decode cX12_init 320 = .ok (.iconst 1, 1) := by decide +kernel
theorem dX12_init_321 : decode cX12_init 321 = .ok (.putfield 133, 3) := by decide +kernel
theorem dX12_init_324 : decode cX12_init 324 = .ok (.aload_n 0, 1) := by decide +kernel
theorem dX12_init_325 : decode cX12_init 325 = .ok (.iconst 0, 1) := by decide +kernel
theorem dX12_init_326 : decode cX12_init 326 = .ok (.putfield 136, 3) := by decide +kernel
theorem dX12_init_329 : decode cX12_init 329 = .ok (.iconst 0, 1) := by decide +kernel
theorem dX12_init_330 : decode cX12_init 330 = .ok (.istore_n 1, 1) := by decide +kernel
theorem dX12_init_331 : decode cX12_init 331 = .ok (.iload_n 1, 1) := by decide +kernel
theorem dX12_init_332 : decode cX12_init 332 = .ok (.iconst 4, 1) := by decide +kernel
theorem dX12_init_333 : decode cX12_init 333 = .ok (.if_icmp .ge 16, 3) := by decide +kernel
theorem dX12_init_336 : decode cX12_init 336 = .ok (.aload_n 0, 1) := by decide +kernel
theorem dX12_init_337 : decode cX12_init 337 = .ok (.getfield 7, 3) := by decide +kernel
theorem dX12_init_340 : decode cX12_init 340 = .ok (.iload_n 1, 1) := by decide +kernel
theorem dX12_init_341 : decode cX12_init 341 = .ok (.iconst (-1), 1) := by decide +kernel
theorem dX12_init_342 : decode cX12_init 342 = .ok (.iastore, 1) := by decide +kernel
theorem dX12_init_343 : decode cX12_init 343 = .ok (.iinc 1 1, 3) := by decide +kernel
theorem dX12_init_346 : decode cX12_init 346 = .ok (.goto (-15), 3) := by decide +kernel
theorem dX12_init_349 : decode cX12_init 349 = .ok (.return_, 1) := by decide +kernel
theorem dX12_in_0 : decode cX12_in 0 = .ok (.lload_n 0, 1) := by decide +kernel
theorem dX12_in_1 : decode cX12_in 1 = .ok (.lload_n 2, 1) := by decide +kernel
theorem dX12_in_2 : decode cX12_in 2 = .ok (.lcmp, 1) := by decide +kernel
theorem dX12_in_3 : decode cX12_in 3 = .ok (.ifCond .lt 14, 3) := by decide +kernel
theorem dX12_in_6 : decode cX12_in 6 = .ok (.lload_n 0, 1) := by decide +kernel
theorem dX12_in_7 : decode cX12_in 7 = .ok (.lload 4, 2) := by decide +kernel
theorem dX12_in_9 : decode cX12_in 9 = .ok (.lcmp, 1) := by decide +kernel
theorem dX12_in_10 : decode cX12_in 10 = .ok (.ifCond .gt 7, 3) := by decide +kernel
theorem dX12_in_13 : decode cX12_in 13 = .ok (.iconst 1, 1) := by decide +kernel
theorem dX12_in_14 : decode cX12_in 14 = .ok (.goto 4, 3) := by decide +kernel
theorem dX12_in_17 : decode cX12_in 17 = .ok (.iconst 0, 1) := by decide +kernel
theorem dX12_in_18 : decode cX12_in 18 = .ok (.ireturn, 1) := by decide +kernel
theorem dX12_lost_0 : decode cX12_lost 0 = .ok (.ldc2_w 139, 3) := by decide +kernel
theorem dX12_lost_3 : decode cX12_lost 3 = .ok (.lreturn, 1) := by decide +kernel
theorem dX12_refused_0 : decode cX12_refused 0 = .ok (.aload_n 0, 1) := by decide +kernel
theorem dX12_refused_1 : decode cX12_refused 1 = .ok (.iconst 0, 1) := by decide +kernel
theorem dX12_refused_2 : decode cX12_refused 2 = .ok (.putfield 141, 3) := by decide +kernel
theorem dX12_refused_5 : decode cX12_refused 5 = .ok (.iload_n 1, 1) := by decide +kernel
theorem dX12_refused_6 : decode cX12_refused 6 = .ok (.ireturn, 1) := by decide +kernel
theorem dX12_failed_0 : decode cX12_failed 0 = .ok (.aload_n 0, 1) := by decide +kernel
theorem dX12_failed_1 : decode cX12_failed 1 = .ok (.iload_n 1, 1) := by decide +kernel
theorem dX12_failed_2 : decode cX12_failed 2 = .ok (.putfield 141, 3) := by decide +kernel
theorem dX12_failed_5 : decode cX12_failed 5 = .ok (.bipush (-10), 2) := by decide +kernel
theorem dX12_failed_7 : decode cX12_failed 7 = .ok (.iload_n 1, 1) := by decide +kernel
theorem dX12_failed_8 : decode cX12_failed 8 = .ok (.isub, 1) := by decide +kernel
theorem dX12_failed_9 : decode cX12_failed 9 = .ok (.ireturn, 1) := by decide +kernel
set_option maxRecDepth 100000 in
theorem ggX12_failedLong_X12_lost : GoodIn wsX12_failedLong wsX12_lost := goodIn_s _ [6] [5] (by decide +kernel) rfl (by decide +kernel)
set_option maxRecDepth 20000 in
theorem gX12_failedLong_X12_lost : GoodIn wsX12_failedLong (va_wsS RX12 144 yX12_lost wsX12_lost) := goodIn_app (goodIn_of _ (by decide +kernel)) ggX12_failedLong_X12_lost
theorem dX12_failedLong_0 : decode cX12_failedLong 0 = .ok (.aload_n 0, 1) := by decide +kernel
theorem dX12_failedLong_1 : decode cX12_failedLong 1 = .ok (.iload_n 1, 1) := by decide +kernel
theorem dX12_failedLong_2 : decode cX12_failedLong 2 = .ok (.putfield 141, 3) := by decide +kernel
theorem dX12_failedLong_5 : decode cX12_failedLong 5 = .ok (.invokestatic 144, 3) := by decide +kernel
theorem dX12_failedLong_8 : decode cX12_failedLong 8 = .ok (.lreturn, 1) := by decide +kernel
theorem dX12_lesser_0 : decode cX12_lesser 0 = .ok (.iload_n 0, 1) := by decide +kernel
theorem dX12_lesser_1 : decode cX12_lesser 1 = .ok (.iload_n 1, 1) := by decide +kernel
theorem dX12_lesser_2 : decode cX12_lesser 2 = .ok (.if_icmp .ge 7, 3) := by decide +kernel
theorem dX12_lesser_5 : decode cX12_lesser 5 = .ok (.iload_n 0, 1) := by decide +kernel
theorem dX12_lesser_6 : decode cX12_lesser 6 = .ok (.goto 4, 3) := by decide +kernel
theorem dX12_lesser_9 : decode cX12_lesser 9 = .ok (.iload_n 1, 1) := by decide +kernel
theorem dX12_lesser_10 : decode cX12_lesser 10 = .ok (.ireturn, 1) := by decide +kernel
set_option maxRecDepth 100000 in
theorem ggX12_noSheet_X12_in : GoodIn wsX12_noSheet wsX12_in := goodIn_s _ [] [5] (by decide +kernel) rfl (by decide +kernel)
set_option maxRecDepth 20000 in
theorem gX12_noSheet_X12_in : GoodIn wsX12_noSheet (va_wsS RX12 150 yX12_in wsX12_in) := goodIn_app (goodIn_of _ (by decide +kernel)) ggX12_noSheet_X12_in
theorem dX12_noSheet_0 : decode cX12_noSheet 0 = .ok (.iload_n 0, 1) := by decide +kernel
theorem dX12_noSheet_1 : decode cX12_noSheet 1 = .ok (.i2l, 1) := by decide +kernel
theorem dX12_noSheet_2 : decode cX12_noSheet 2 = .ok (.lconst 0, 1) := by decide +kernel
theorem dX12_noSheet_3 : decode cX12_noSheet 3 = .ok (.ldc2_w 148, 3) := by decide +kernel
theorem dX12_noSheet_6 : decode cX12_noSheet 6 = .ok (.invokestatic 150, 3) := by decide +kernel
theorem dX12_noSheet_9 : decode cX12_noSheet 9 = .ok (.ifCond .ne 7, 3) := by decide +kernel
theorem dX12_noSheet_12 : decode cX12_noSheet 12 = .ok (.iconst 1, 1) := by decide +kernel
theorem dX12_noSheet_13 : decode cX12_noSheet 13 = .ok (.goto 4, 3) := by decide +kernel
theorem dX12_noSheet_16 : decode cX12_noSheet 16 = .ok (.iconst 0, 1) := by decide +kernel
theorem dX12_noSheet_17 : decode cX12_noSheet 17 = .ok (.ireturn, 1) := by decide +kernel
set_option maxRecDepth 100000 in
theorem ggX12_sheet_X12_noSheet : GoodIn wsX12_sheet wsX12_noSheet := goodIn_s _ [9, 10, 11, 7] [8, 12] (by decide +kernel) rfl (by decide +kernel)
set_option maxRecDepth 20000 in
theorem gX12_sheet_X12_noSheet : GoodIn wsX12_sheet (va_wsS RX12 154 yX12_noSheet wsX12_noSheet) := goodIn_app (goodIn_of _ (by decide +kernel)) ggX12_sheet_X12_noSheet
set_option maxRecDepth 100000 in
theorem ggX12_sheet_X12_refused : GoodIn wsX12_sheet wsX12_refused := goodIn_s _ [17, 22, 23, 24, 25, 26, 27, 28, 29, 30, 31, 32, 33, 34, 35, 36, 37, 38, 39, 40, 41, 42, 43, 44, 45, 46, 47, 48, 49, 50, 51, 52, 53, 54, 55, 56, 57, 58, 59, 60, 61, 62, 63, 64, 65, 66, 67, 68, 69, 70, 71, 72, 73, 74, 75, 76, 77, 78, 79, 80, 81, 82, 83, 84, 85, 86, 87] [16] (by decide +kernel) rfl (by decide +kernel)
set_option maxRecDepth 20000 in
theorem gX12_sheet_X12_refused : GoodIn wsX12_sheet (wsV RX12 158 RX12 yX12_refused wsX12_refused) := goodIn_app (goodIn_of _ (by decide +kernel)) ggX12_sheet_X12_refused
set_option maxRecDepth 100000 in
theorem ggX12_sheet_X12_in : GoodIn wsX12_sheet wsX12_in := goodIn_s _ [] [12] (by decide +kernel) rfl (by decide +kernel)
set_option maxRecDepth 20000 in
theorem gX12_sheet_X12_in : GoodIn wsX12_sheet (va_wsS RX12 150 yX12_in wsX12_in) := goodIn_app (goodIn_of _ (by decide +kernel)) ggX12_sheet_X12_in
set_option maxRecDepth 100000 in
theorem ggX12_sheet_X12_failed : GoodIn wsX12_sheet wsX12_failed := goodIn_s _ [17, 22, 23, 24, 25, 26, 27, 28, 29, 30, 31, 32, 33, 34, 35, 36, 37, 38, 39, 40, 41, 42, 43, 44, 45, 46, 47, 48, 49, 50, 51, 52, 53, 54, 55, 56, 57, 58, 59, 60, 61, 62, 63, 64, 65, 66, 67, 68, 69, 70, 71, 72, 73, 74, 75, 76, 77, 78, 79, 80, 81, 82, 83, 84, 85, 86, 87] [21] (by decide +kernel) rfl (by decide +kernel)
set_option maxRecDepth 20000 in
theorem gX12_sheet_X12_failed : GoodIn wsX12_sheet (wsV RX12 164 RX12 yX12_failed wsX12_failed) := goodIn_app (goodIn_of _ (by decide +kernel)) ggX12_sheet_X12_failed
theorem dX12_sheet_0 : decode cX12_sheet 0 = .ok (.iload_n 1, 1) := by decide +kernel
theorem dX12_sheet_1 : decode cX12_sheet 1 = .ok (.invokestatic 154, 3) := by decide +kernel
theorem dX12_sheet_4 : decode cX12_sheet 4 = .ok (.ifCond .eq 9, 3) := by decide +kernel
theorem dX12_sheet_7 : decode cX12_sheet 7 = .ok (.aload_n 0, 1) := by decide +kernel
theorem dX12_sheet_8 : decode cX12_sheet 8 = .ok (.iconst (-1), 1) := by decide +kernel
theorem dX12_sheet_9 : decode cX12_sheet 9 = .ok (.invokevirtual 158, 3) := by decide +kernel
theorem dX12_sheet_12 : decode cX12_sheet 12 = .ok (.ireturn, 1) := by decide +kernel
theorem dX12_sheet_13 : decode cX12_sheet 13 = .ok (.iload_n 2, 1) := by decide +kernel
theorem dX12_sheet_14 : decode cX12_sheet 14 = .ok (.i2l, 1) := by decide +kernel
theorem dX12_sheet_15 : decode cX12_sheet 15 = .ok (.lconst 0, 1) := by decide +kernel
theorem dX12_sheet_16 : decode cX12_sheet 16 = .ok (.ldc2_w 162, 3) := by decide +kernel
theorem dX12_sheet_19 : decode cX12_sheet 19 = .ok (.invokestatic 150, 3) := by decide +kernel
theorem dX12_sheet_22 : decode cX12_sheet 22 = .ok (.ifCond .eq 9, 3) := by decide +kernel
theorem dX12_sheet_25 : decode cX12_sheet 25 = .ok (.iload_n 3, 1) := by decide +kernel
theorem dX12_sheet_26 : decode cX12_sheet 26 = .ok (.bipush 20, 2) := by decide +kernel
theorem dX12_sheet_28 : decode cX12_sheet 28 = .ok (.if_icmp .le 10, 3) := by decide +kernel
theorem dX12_sheet_31 : decode cX12_sheet 31 = .ok (.aload_n 0, 1) := by decide +kernel
theorem dX12_sheet_32 : decode cX12_sheet 32 = .ok (.bipush (-2), 2) := by decide +kernel
theorem dX12_sheet_34 : decode cX12_sheet 34 = .ok (.invokevirtual 158, 3) := by decide +kernel
theorem dX12_sheet_37 : decode cX12_sheet 37 = .ok (.ireturn, 1) := by decide +kernel
theorem dX12_sheet_38 : decode cX12_sheet 38 = .ok (.iload_n 3, 1) := by decide +kernel
theorem dX12_sheet_39 : decode cX12_sheet 39 = .ok (.ifCond .ge 9, 3) := by decide +kernel
theorem dX12_sheet_42 : decode cX12_sheet 42 = .ok (.aload_n 0, 1) := by decide +kernel
theorem dX12_sheet_43 : decode cX12_sheet 43 = .ok (.iconst 4, 1) := by decide +kernel
theorem dX12_sheet_44 : decode cX12_sheet 44 = .ok (.invokevirtual 164, 3) := by decide +kernel
theorem dX12_sheet_47 : decode cX12_sheet 47 = .ok (.ireturn, 1) := by decide +kernel
theorem dX12_sheet_48 : decode cX12_sheet 48 = .ok (.aload_n 0, 1) := by decide +kernel
theorem dX12_sheet_49 : decode cX12_sheet 49 = .ok (.getfield 7, 3) := by decide +kernel
theorem dX12_sheet_52 : decode cX12_sheet 52 = .ok (.iload_n 1, 1) := by decide +kernel
theorem dX12_sheet_53 : decode cX12_sheet 53 = .ok (.iload_n 3, 1) := by decide +kernel
theorem dX12_sheet_54 : decode cX12_sheet 54 = .ok (.iastore, 1) := by decide +kernel
theorem dX12_sheet_55 : decode cX12_sheet 55 = .ok (.aload_n 0, 1) := by decide +kernel
theorem dX12_sheet_56 : decode cX12_sheet 56 = .ok (.getfield 13, 3) := by decide +kernel
theorem dX12_sheet_59 : decode cX12_sheet 59 = .ok (.iload_n 1, 1) := by decide +kernel
theorem dX12_sheet_60 : decode cX12_sheet 60 = .ok (.iload_n 2, 1) := by decide +kernel
theorem dX12_sheet_61 : decode cX12_sheet 61 = .ok (.iastore, 1) := by decide +kernel
theorem dX12_sheet_62 : decode cX12_sheet 62 = .ok (.iconst 0, 1) := by decide +kernel
theorem dX12_sheet_63 : decode cX12_sheet 63 = .ok (.istore 4, 2) := by decide +kernel
theorem dX12_sheet_65 : decode cX12_sheet 65 = .ok (.iload 4, 2) := by decide +kernel
theorem dX12_sheet_67 : decode cX12_sheet 67 = .ok (.iload_n 3, 1) := by decide +kernel
theorem dX12_sheet_68 : decode cX12_sheet 68 = .ok (.if_icmp .ge 22, 3) := by decide +kernel
theorem dX12_sheet_71 : decode cX12_sheet 71 = .ok (.aload_n 0, 1) := by decide +kernel
theorem dX12_sheet_72 : decode cX12_sheet 72 = .ok (.getfield 16, 3) := by decide +kernel
theorem dX12_sheet_75 : decode cX12_sheet 75 = .ok (.bipush 20, 2) := by decide +kernel
theorem dX12_sheet_77 : decode cX12_sheet 77 = .ok (.iload_n 1, 1) := by decide +kernel
theorem dX12_sheet_78 : decode cX12_sheet 78 = .ok (.imul, 1) := by decide +kernel
theorem dX12_sheet_79 : decode cX12_sheet 79 = .ok (.iload 4, 2) := by decide +kernel
theorem dX12_sheet_81 : decode cX12_sheet 81 = .ok (.iadd, 1) := by decide +kernel
theorem dX12_sheet_82 : decode cX12_sheet 82 = .ok (.iconst 0, 1) := by decide +kernel
theorem dX12_sheet_83 : decode cX12_sheet 83 = .ok (.iastore, 1) := by decide +kernel
theorem dX12_sheet_84 : decode cX12_sheet 84 = .ok (.iinc 4 1, 3) := by decide +kernel
theorem dX12_sheet_87 : decode cX12_sheet 87 = .ok (.goto (-22), 3) := by decide +kernel
theorem dX12_sheet_90 : decode cX12_sheet 90 = .ok (.aload_n 0, 1) := by decide +kernel
theorem dX12_sheet_91 : decode cX12_sheet 91 = .ok (.iconst 1, 1) := by decide +kernel
theorem dX12_sheet_92 : decode cX12_sheet 92 = .ok (.invokevirtual 158, 3) := by decide +kernel
theorem dX12_sheet_95 : decode cX12_sheet 95 = .ok (.ireturn, 1) := by decide +kernel
set_option maxRecDepth 100000 in
theorem ggX12_lose_X12_noSheet : GoodIn wsX12_lose wsX12_noSheet := goodIn_s _ [6, 7, 8, 4] [5, 9] (by decide +kernel) rfl (by decide +kernel)
set_option maxRecDepth 20000 in
theorem gX12_lose_X12_noSheet : GoodIn wsX12_lose (va_wsS RX12 154 yX12_noSheet wsX12_noSheet) := goodIn_app (goodIn_of _ (by decide +kernel)) ggX12_lose_X12_noSheet
theorem dX12_lose_0 : decode cX12_lose 0 = .ok (.iload_n 1, 1) := by decide +kernel
theorem dX12_lose_1 : decode cX12_lose 1 = .ok (.invokestatic 154, 3) := by decide +kernel
theorem dX12_lose_4 : decode cX12_lose 4 = .ok (.ifCond .eq 5, 3) := by decide +kernel
theorem dX12_lose_7 : decode cX12_lose 7 = .ok (.iconst (-1), 1) := by decide +kernel
theorem dX12_lose_8 : decode cX12_lose 8 = .ok (.ireturn, 1) := by decide +kernel
theorem dX12_lose_9 : decode cX12_lose 9 = .ok (.aload_n 0, 1) := by decide +kernel
theorem dX12_lose_10 : decode cX12_lose 10 = .ok (.getfield 7, 3) := by decide +kernel
theorem dX12_lose_13 : decode cX12_lose 13 = .ok (.iload_n 1, 1) := by decide +kernel
theorem dX12_lose_14 : decode cX12_lose 14 = .ok (.iaload, 1) := by decide +kernel
theorem dX12_lose_15 : decode cX12_lose 15 = .ok (.ifCond .ge 7, 3) := by decide +kernel
theorem dX12_lose_18 : decode cX12_lose 18 = .ok (.iconst 0, 1) := by decide +kernel
theorem dX12_lose_19 : decode cX12_lose 19 = .ok (.goto 4, 3) := by decide +kernel
theorem dX12_lose_22 : decode cX12_lose 22 = .ok (.iconst 1, 1) := by decide +kernel
theorem dX12_lose_23 : decode cX12_lose 23 = .ok (.istore_n 2, 1) := by decide +kernel
theorem dX12_lose_24 : decode cX12_lose 24 = .ok (.aload_n 0, 1) := by decide +kernel
theorem dX12_lose_25 : decode cX12_lose 25 = .ok (.getfield 7, 3) := by decide +kernel
theorem dX12_lose_28 : decode cX12_lose 28 = .ok (.iload_n 1, 1) := by decide +kernel
theorem dX12_lose_29 : decode cX12_lose 29 = .ok (.iconst (-1), 1) := by decide +kernel
theorem dX12_lose_30 : decode cX12_lose 30 = .ok (.iastore, 1) := by decide +kernel
theorem dX12_lose_31 : decode cX12_lose 31 = .ok (.iload_n 2, 1) := by decide +kernel
theorem dX12_lose_32 : decode cX12_lose 32 = .ok (.ireturn, 1) := by decide +kernel
set_option maxRecDepth 100000 in
theorem ggX12_noCell_X12_in : GoodIn wsX12_noCell wsX12_in := goodIn_s _ [] [5] (by decide +kernel) rfl (by decide +kernel)
set_option maxRecDepth 20000 in
theorem gX12_noCell_X12_in : GoodIn wsX12_noCell (va_wsS RX12 150 yX12_in wsX12_in) := goodIn_app (goodIn_of _ (by decide +kernel)) ggX12_noCell_X12_in
theorem dX12_noCell_0 : decode cX12_noCell 0 = .ok (.aload_n 0, 1) := by decide +kernel
theorem dX12_noCell_1 : decode cX12_noCell 1 = .ok (.getfield 7, 3) := by decide +kernel
theorem dX12_noCell_4 : decode cX12_noCell 4 = .ok (.iload_n 1, 1) := by decide +kernel
theorem dX12_noCell_5 : decode cX12_noCell 5 = .ok (.iaload, 1) := by decide +kernel
theorem dX12_noCell_6 : decode cX12_noCell 6 = .ok (.ifCond .ge 7, 3) := by decide +kernel
theorem dX12_noCell_9 : decode cX12_noCell 9 = .ok (.iconst 1, 1) := by decide +kernel
theorem dX12_noCell_10 : decode cX12_noCell 10 = .ok (.goto 26, 3) := by decide +kernel
theorem dX12_noCell_13 : decode cX12_noCell 13 = .ok (.iload_n 2, 1) := by decide +kernel
theorem dX12_noCell_14 : decode cX12_noCell 14 = .ok (.i2l, 1) := by decide +kernel
theorem dX12_noCell_15 : decode cX12_noCell 15 = .ok (.lconst 0, 1) := by decide +kernel
theorem dX12_noCell_16 : decode cX12_noCell 16 = .ok (.aload_n 0, 1) := by decide +kernel
theorem dX12_noCell_17 : decode cX12_noCell 17 = .ok (.getfield 7, 3) := by decide +kernel
theorem dX12_noCell_20 : decode cX12_noCell 20 = .ok (.iload_n 1, 1) := by decide +kernel
theorem dX12_noCell_21 : decode cX12_noCell 21 = .ok (.iaload, 1) := by decide +kernel
theorem dX12_noCell_22 : decode cX12_noCell 22 = .ok (.i2l, 1) := by decide +kernel
theorem dX12_noCell_23 : decode cX12_noCell 23 = .ok (.lconst 1, 1) := by decide +kernel
theorem dX12_noCell_24 : decode cX12_noCell 24 = .ok (.lsub, 1) := by decide +kernel
theorem dX12_noCell_25 : decode cX12_noCell 25 = .ok (.invokestatic 150, 3) := by decide +kernel
theorem dX12_noCell_28 : decode cX12_noCell 28 = .ok (.ifCond .eq 7, 3) := by decide +kernel
theorem dX12_noCell_31 : decode cX12_noCell 31 = .ok (.iconst 0, 1) := by decide +kernel
theorem dX12_noCell_32 : decode cX12_noCell 32 = .ok (.goto 4, 3) := by decide +kernel
theorem dX12_noCell_35 : decode cX12_noCell 35 = .ok (.iconst 3, 1) := by decide +kernel
theorem dX12_noCell_36 : decode cX12_noCell 36 = .ok (.ireturn, 1) := by decide +kernel
set_option maxRecDepth 100000 in
theorem ggX12_put_X12_noSheet : GoodIn wsX12_put wsX12_noSheet := goodIn_s _ [7, 8, 9, 5] [6, 10] (by decide +kernel) rfl (by decide +kernel)
set_option maxRecDepth 20000 in
theorem gX12_put_X12_noSheet : GoodIn wsX12_put (va_wsS RX12 154 yX12_noSheet wsX12_noSheet) := goodIn_app (goodIn_of _ (by decide +kernel)) ggX12_put_X12_noSheet
set_option maxRecDepth 100000 in
theorem ggX12_put_X12_refused : GoodIn wsX12_put wsX12_refused := goodIn_s _ [15, 25, 26, 27, 28, 29, 30, 31, 32, 33, 34, 35, 36, 37, 38, 39, 40, 41, 42, 43, 44, 45, 46, 47, 48, 49, 50, 51, 52, 53, 54, 55, 56, 57, 58, 59, 60, 61, 62, 63, 64, 65, 66, 67, 68, 69, 70, 71, 72, 73, 74, 75, 76, 77, 78, 79, 80, 81, 82, 83, 84, 85, 86, 87, 88, 89, 90] [14] (by decide +kernel) rfl (by decide +kernel)
set_option maxRecDepth 20000 in
theorem gX12_put_X12_refused : GoodIn wsX12_put (wsV RX12 158 RX12 yX12_refused wsX12_refused) := goodIn_app (goodIn_of _ (by decide +kernel)) ggX12_put_X12_refused
set_option maxRecDepth 100000 in
theorem ggX12_put_X12_noCell : GoodIn wsX12_put wsX12_noCell := goodIn_s _ [20, 8, 9, 5, 25, 26, 27, 28, 29, 30, 31, 32, 33, 34, 35, 36, 37, 38, 39, 40, 41, 42, 43, 44, 45, 46, 47, 48, 49, 50, 51, 52, 53, 54, 55, 56, 57, 58, 59, 60, 61, 62, 63, 64, 65, 66, 67, 68, 69, 70, 71, 72, 73, 74, 75, 76, 77, 78, 79, 80, 81, 82, 83, 84, 85, 86, 87, 88, 89, 90] [19, 10] (by decide +kernel) rfl (by decide +kernel)
set_option maxRecDepth 20000 in
theorem gX12_put_X12_noCell : GoodIn wsX12_put (wsV RX12 167 RX12 yX12_noCell wsX12_noCell) := goodIn_app (goodIn_of _ (by decide +kernel)) ggX12_put_X12_noCell
set_option maxRecDepth 100000 in
theorem ggX12_put_X12_failed : GoodIn wsX12_put wsX12_failed := goodIn_s _ [15, 25, 26, 27, 28, 29, 30, 31, 32, 33, 34, 35, 36, 37, 38, 39, 40, 41, 42, 43, 44, 45, 46, 47, 48, 49, 50, 51, 52, 53, 54, 55, 56, 57, 58, 59, 60, 61, 62, 63, 64, 65, 66, 67, 68, 69, 70, 71, 72, 73, 74, 75, 76, 77, 78, 79, 80, 81, 82, 83, 84, 85, 86, 87, 88, 89, 90] [24] (by decide +kernel) rfl (by decide +kernel)
set_option maxRecDepth 20000 in
theorem gX12_put_X12_failed : GoodIn wsX12_put (wsV RX12 164 RX12 yX12_failed wsX12_failed) := goodIn_app (goodIn_of _ (by decide +kernel)) ggX12_put_X12_failed
theorem dX12_put_0 : decode cX12_put 0 = .ok (.iload_n 1, 1) := by decide +kernel
theorem dX12_put_1 : decode cX12_put 1 = .ok (.invokestatic 154, 3) := by decide +kernel
theorem dX12_put_4 : decode cX12_put 4 = .ok (.ifCond .eq 9, 3) := by decide +kernel
theorem dX12_put_7 : decode cX12_put 7 = .ok (.aload_n 0, 1) := by decide +kernel
theorem dX12_put_8 : decode cX12_put 8 = .ok (.iconst (-1), 1) := by decide +kernel
theorem dX12_put_9 : decode cX12_put 9 = .ok (.invokevirtual 158, 3) := by decide +kernel
theorem dX12_put_12 : decode cX12_put 12 = .ok (.ireturn, 1) := by decide +kernel
theorem dX12_put_13 : decode cX12_put 13 = .ok (.aload_n 0, 1) := by decide +kernel
theorem dX12_put_14 : decode cX12_put 14 = .ok (.iload_n 1, 1) := by decide +kernel
theorem dX12_put_15 : decode cX12_put 15 = .ok (.iload_n 2, 1) := by decide +kernel
theorem dX12_put_16 : decode cX12_put 16 = .ok (.invokevirtual 167, 3) := by decide +kernel
theorem dX12_put_19 : decode cX12_put 19 = .ok (.ifCond .le 14, 3) := by decide +kernel
theorem dX12_put_22 : decode cX12_put 22 = .ok (.aload_n 0, 1) := by decide +kernel
theorem dX12_put_23 : decode cX12_put 23 = .ok (.aload_n 0, 1) := by decide +kernel
theorem dX12_put_24 : decode cX12_put 24 = .ok (.iload_n 1, 1) := by decide +kernel
theorem dX12_put_25 : decode cX12_put 25 = .ok (.iload_n 2, 1) := by decide +kernel
theorem dX12_put_26 : decode cX12_put 26 = .ok (.invokevirtual 167, 3) := by decide +kernel
theorem dX12_put_29 : decode cX12_put 29 = .ok (.invokevirtual 164, 3) := by decide +kernel
theorem dX12_put_32 : decode cX12_put 32 = .ok (.ireturn, 1) := by decide +kernel
theorem dX12_put_33 : decode cX12_put 33 = .ok (.aload_n 0, 1) := by decide +kernel
theorem dX12_put_34 : decode cX12_put 34 = .ok (.getfield 16, 3) := by decide +kernel
theorem dX12_put_37 : decode cX12_put 37 = .ok (.bipush 20, 2) := by decide +kernel
theorem dX12_put_39 : decode cX12_put 39 = .ok (.iload_n 1, 1) := by decide +kernel
theorem dX12_put_40 : decode cX12_put 40 = .ok (.imul, 1) := by decide +kernel
theorem dX12_put_41 : decode cX12_put 41 = .ok (.iload_n 2, 1) := by decide +kernel
theorem dX12_put_42 : decode cX12_put 42 = .ok (.iadd, 1) := by decide +kernel
theorem dX12_put_43 : decode cX12_put 43 = .ok (.aload_n 0, 1) := by decide +kernel
theorem dX12_put_44 : decode cX12_put 44 = .ok (.getfield 13, 3) := by decide +kernel
theorem dX12_put_47 : decode cX12_put 47 = .ok (.iload_n 1, 1) := by decide +kernel
theorem dX12_put_48 : decode cX12_put 48 = .ok (.iaload, 1) := by decide +kernel
theorem dX12_put_49 : decode cX12_put 49 = .ok (.ifCond .ne 8, 3) := by decide +kernel
theorem dX12_put_52 : decode cX12_put 52 = .ok (.iload_n 3, 1) := by decide +kernel
theorem dX12_put_53 : decode cX12_put 53 = .ok (.i2b, 1) := by decide +kernel
theorem dX12_put_54 : decode cX12_put 54 = .ok (.goto 19, 3) := by decide +kernel
theorem dX12_put_57 : decode cX12_put 57 = .ok (.aload_n 0, 1) := by decide +kernel
theorem dX12_put_58 : decode cX12_put 58 = .ok (.getfield 13, 3) := by decide +kernel
theorem dX12_put_61 : decode cX12_put 61 = .ok (.iload_n 1, 1) := by decide +kernel
theorem dX12_put_62 : decode cX12_put 62 = .ok (.iaload, 1) := by decide +kernel
theorem dX12_put_63 : decode cX12_put 63 = .ok (.iconst 1, 1) := by decide +kernel
theorem dX12_put_64 : decode cX12_put 64 = .ok (.if_icmp .ne 8, 3) := by decide +kernel
theorem dX12_put_67 : decode cX12_put 67 = .ok (.iload_n 3, 1) := by decide +kernel
theorem dX12_put_68 : decode cX12_put 68 = .ok (.i2s, 1) := by decide +kernel
theorem dX12_put_69 : decode cX12_put 69 = .ok (.goto 4, 3) := by decide +kernel
theorem dX12_put_72 : decode cX12_put 72 = .ok (.iload_n 3, 1) := by decide +kernel
theorem dX12_put_73 : decode cX12_put 73 = .ok (.iastore, 1) := by decide +kernel
theorem dX12_put_74 : decode cX12_put 74 = .ok (.aload_n 0, 1) := by decide +kernel
theorem dX12_put_75 : decode cX12_put 75 = .ok (.iconst 1, 1) := by decide +kernel
theorem dX12_put_76 : decode cX12_put 76 = .ok (.invokevirtual 158, 3) := by decide +kernel
theorem dX12_put_79 : decode cX12_put 79 = .ok (.ireturn, 1) := by decide +kernel
set_option maxRecDepth 100000 in
theorem ggX12_cell_X12_noSheet : GoodIn wsX12_cell wsX12_noSheet := goodIn_s _ [10, 11, 12, 8] [9, 13] (by decide +kernel) rfl (by decide +kernel)
set_option maxRecDepth 20000 in
theorem gX12_cell_X12_noSheet : GoodIn wsX12_cell (va_wsS RX12 154 yX12_noSheet wsX12_noSheet) := goodIn_app (goodIn_of _ (by decide +kernel)) ggX12_cell_X12_noSheet
set_option maxRecDepth 100000 in
theorem ggX12_cell_X12_in : GoodIn wsX12_cell wsX12_in := goodIn_s _ [] [13] (by decide +kernel) rfl (by decide +kernel)
set_option maxRecDepth 20000 in
theorem gX12_cell_X12_in : GoodIn wsX12_cell (va_wsS RX12 150 yX12_in wsX12_in) := goodIn_app (goodIn_of _ (by decide +kernel)) ggX12_cell_X12_in
set_option maxRecDepth 100000 in
theorem ggX12_cell_X12_lost : GoodIn wsX12_cell wsX12_lost := goodIn_s _ [17] [16] (by decide +kernel) rfl (by decide +kernel)
set_option maxRecDepth 20000 in
theorem gX12_cell_X12_lost : GoodIn wsX12_cell (va_wsS RX12 144 yX12_lost wsX12_lost) := goodIn_app (goodIn_of _ (by decide +kernel)) ggX12_cell_X12_lost
set_option maxRecDepth 100000 in
theorem ggX12_cell_X12_failedLong : GoodIn wsX12_cell wsX12_failedLong := goodIn_s _ [1, 14, 15, 8, 17, 26, 27, 28, 29, 30, 31, 32, 33, 34, 35, 36, 37, 38, 39, 40, 41, 42, 43, 44, 45, 46, 47, 48, 49, 50, 51, 52, 53, 54, 55, 56, 57, 58, 59, 60, 61, 62, 63, 64, 65, 66, 67, 68, 69, 70, 71, 72, 73, 74, 75, 76, 77, 78, 79, 80, 81, 82, 83, 84, 85, 86, 87, 88, 89, 90, 91] [21, 16] (by decide +kernel) rfl (by decide +kernel)
set_option maxRecDepth 20000 in
theorem gX12_cell_X12_failedLong : GoodIn wsX12_cell (wsV RX12 171 RX12 yX12_failedLong wsX12_failedLong) := goodIn_app (goodIn_of _ (by decide +kernel)) ggX12_cell_X12_failedLong
set_option maxRecDepth 100000 in
theorem ggX12_cell_X12_noCell : GoodIn wsX12_cell wsX12_noCell := goodIn_s _ [3, 11, 12, 8, 26, 27, 28, 29, 30, 31, 32, 33, 34, 35, 36, 37, 38, 39, 40, 41, 42, 43, 44, 45, 46, 47, 48, 49, 50, 51, 52, 53, 54, 55, 56, 57, 58, 59, 60, 61, 62, 63, 64, 65, 66, 67, 68, 69, 70, 71, 72, 73, 74, 75, 76, 77, 78, 79, 80, 81, 82, 83, 84, 85, 86, 87, 88, 89, 90, 91] [25, 13] (by decide +kernel) rfl (by decide +kernel)
set_option maxRecDepth 20000 in
theorem gX12_cell_X12_noCell : GoodIn wsX12_cell (wsV RX12 167 RX12 yX12_noCell wsX12_noCell) := goodIn_app (goodIn_of _ (by decide +kernel)) ggX12_cell_X12_noCell
theorem dX12_cell_0 : decode cX12_cell 0 = .ok (.aload_n 0, 1) := by decide +kernel
theorem dX12_cell_1 : decode cX12_cell 1 = .ok (.iconst 0, 1) := by decide +kernel
theorem dX12_cell_2 : decode cX12_cell 2 = .ok (.putfield 141, 3) := by decide +kernel
theorem dX12_cell_5 : decode cX12_cell 5 = .ok (.iload_n 1, 1) := by decide +kernel
theorem dX12_cell_6 : decode cX12_cell 6 = .ok (.invokestatic 154, 3) := by decide +kernel
theorem dX12_cell_9 : decode cX12_cell 9 = .ok (.ifCond .ne 15, 3) := by decide +kernel
theorem dX12_cell_12 : decode cX12_cell 12 = .ok (.iload_n 3, 1) := by decide +kernel
theorem dX12_cell_13 : decode cX12_cell 13 = .ok (.i2l, 1) := by decide +kernel
theorem dX12_cell_14 : decode cX12_cell 14 = .ok (.lconst 0, 1) := by decide +kernel
theorem dX12_cell_15 : decode cX12_cell 15 = .ok (.ldc2_w 162, 3) := by decide +kernel
theorem dX12_cell_18 : decode cX12_cell 18 = .ok (.invokestatic 150, 3) := by decide +kernel
theorem dX12_cell_21 : decode cX12_cell 21 = .ok (.ifCond .ne 7, 3) := by decide +kernel
theorem dX12_cell_24 : decode cX12_cell 24 = .ok (.invokestatic 144, 3) := by decide +kernel
theorem dX12_cell_27 : decode cX12_cell 27 = .ok (.lreturn, 1) := by decide +kernel
theorem dX12_cell_28 : decode cX12_cell 28 = .ok (.aload_n 0, 1) := by decide +kernel
theorem dX12_cell_29 : decode cX12_cell 29 = .ok (.getfield 7, 3) := by decide +kernel
theorem dX12_cell_32 : decode cX12_cell 32 = .ok (.iload_n 1, 1) := by decide +kernel
theorem dX12_cell_33 : decode cX12_cell 33 = .ok (.iaload, 1) := by decide +kernel
theorem dX12_cell_34 : decode cX12_cell 34 = .ok (.ifCond .lt 19, 3) := by decide +kernel
theorem dX12_cell_37 : decode cX12_cell 37 = .ok (.aload_n 0, 1) := by decide +kernel
theorem dX12_cell_38 : decode cX12_cell 38 = .ok (.getfield 13, 3) := by decide +kernel
theorem dX12_cell_41 : decode cX12_cell 41 = .ok (.iload_n 1, 1) := by decide +kernel
theorem dX12_cell_42 : decode cX12_cell 42 = .ok (.iaload, 1) := by decide +kernel
theorem dX12_cell_43 : decode cX12_cell 43 = .ok (.iload_n 3, 1) := by decide +kernel
theorem dX12_cell_44 : decode cX12_cell 44 = .ok (.if_icmp .eq 9, 3) := by decide +kernel
theorem dX12_cell_47 : decode cX12_cell 47 = .ok (.aload_n 0, 1) := by decide +kernel
theorem dX12_cell_48 : decode cX12_cell 48 = .ok (.iconst 2, 1) := by decide +kernel
theorem dX12_cell_49 : decode cX12_cell 49 = .ok (.invokevirtual 171, 3) := by decide +kernel
theorem dX12_cell_52 : decode cX12_cell 52 = .ok (.lreturn, 1) := by decide +kernel
theorem dX12_cell_53 : decode cX12_cell 53 = .ok (.aload_n 0, 1) := by decide +kernel
theorem dX12_cell_54 : decode cX12_cell 54 = .ok (.iload_n 1, 1) := by decide +kernel
theorem dX12_cell_55 : decode cX12_cell 55 = .ok (.iload_n 2, 1) := by decide +kernel
theorem dX12_cell_56 : decode cX12_cell 56 = .ok (.invokevirtual 167, 3) := by decide +kernel
theorem dX12_cell_59 : decode cX12_cell 59 = .ok (.ifCond .le 16, 3) := by decide +kernel
theorem dX12_cell_62 : decode cX12_cell 62 = .ok (.aload_n 0, 1) := by decide +kernel
theorem dX12_cell_63 : decode cX12_cell 63 = .ok (.aload_n 0, 1) := by decide +kernel
theorem dX12_cell_64 : decode cX12_cell 64 = .ok (.iload_n 1, 1) := by decide +kernel
theorem dX12_cell_65 : decode cX12_cell 65 = .ok (.iload_n 2, 1) := by decide +kernel
theorem dX12_cell_66 : decode cX12_cell 66 = .ok (.invokevirtual 167, 3) := by decide +kernel
theorem dX12_cell_69 : decode cX12_cell 69 = .ok (.invokevirtual 171, 3) := by decide +kernel
theorem dX12_cell_72 : decode cX12_cell 72 = .ok (.goto 15, 3) := by decide +kernel
theorem dX12_cell_75 : decode cX12_cell 75 = .ok (.aload_n 0, 1) := by decide +kernel
theorem dX12_cell_76 : decode cX12_cell 76 = .ok (.getfield 16, 3) := by decide +kernel
theorem dX12_cell_79 : decode cX12_cell 79 = .ok (.bipush 20, 2) := by decide +kernel
theorem dX12_cell_81 : decode cX12_cell 81 = .ok (.iload_n 1, 1) := by decide +kernel
theorem dX12_cell_82 : decode cX12_cell 82 = .ok (.imul, 1) := by decide +kernel
theorem dX12_cell_83 : decode cX12_cell 83 = .ok (.iload_n 2, 1) := by decide +kernel
theorem dX12_cell_84 : decode cX12_cell 84 = .ok (.iadd, 1) := by decide +kernel
theorem dX12_cell_85 : decode cX12_cell 85 = .ok (.iaload, 1) := by decide +kernel
theorem dX12_cell_86 : decode cX12_cell 86 = .ok (.i2l, 1) := by decide +kernel
theorem dX12_cell_87 : decode cX12_cell 87 = .ok (.lreturn, 1) := by decide +kernel
theorem dX12_isBeyond_0 : decode cX12_isBeyond 0 = .ok (.iload_n 0, 1) := by decide +kernel
theorem dX12_isBeyond_1 : decode cX12_isBeyond 1 = .ok (.ifCond .lt 18, 3) := by decide +kernel
theorem dX12_isBeyond_4 : decode cX12_isBeyond 4 = .ok (.iload_n 1, 1) := by decide +kernel
theorem dX12_isBeyond_5 : decode cX12_isBeyond 5 = .ok (.ifCond .lt 14, 3) := by decide +kernel
theorem dX12_isBeyond_8 : decode cX12_isBeyond 8 = .ok (.iload_n 0, 1) := by decide +kernel
theorem dX12_isBeyond_9 : decode cX12_isBeyond 9 = .ok (.i2l, 1) := by decide +kernel
theorem dX12_isBeyond_10 : decode cX12_isBeyond 10 = .ok (.iload_n 1, 1) := by decide +kernel
theorem dX12_isBeyond_11 : decode cX12_isBeyond 11 = .ok (.i2l, 1) := by decide +kernel
theorem dX12_isBeyond_12 : decode cX12_isBeyond 12 = .ok (.ladd, 1) := by decide +kernel
theorem dX12_isBeyond_13 : decode cX12_isBeyond 13 = .ok (.iload_n 2, 1) := by decide +kernel
theorem dX12_isBeyond_14 : decode cX12_isBeyond 14 = .ok (.i2l, 1) := by decide +kernel
theorem dX12_isBeyond_15 : decode cX12_isBeyond 15 = .ok (.lcmp, 1) := by decide +kernel
theorem dX12_isBeyond_16 : decode cX12_isBeyond 16 = .ok (.ifCond .le 7, 3) := by decide +kernel
theorem dX12_isBeyond_19 : decode cX12_isBeyond 19 = .ok (.iconst 1, 1) := by decide +kernel
theorem dX12_isBeyond_20 : decode cX12_isBeyond 20 = .ok (.goto 4, 3) := by decide +kernel
theorem dX12_isBeyond_23 : decode cX12_isBeyond 23 = .ok (.iconst 0, 1) := by decide +kernel
theorem dX12_isBeyond_24 : decode cX12_isBeyond 24 = .ok (.ireturn, 1) := by decide +kernel
set_option maxRecDepth 100000 in
theorem ggX12_copy_X12_noSheet : GoodIn wsX12_copy wsX12_noSheet := goodIn_s _ [9, 10, 11, 7] [8, 12] (by decide +kernel) rfl (by decide +kernel)
set_option maxRecDepth 20000 in
theorem gX12_copy_X12_noSheet : GoodIn wsX12_copy (va_wsS RX12 154 yX12_noSheet wsX12_noSheet) := goodIn_app (goodIn_of _ (by decide +kernel)) ggX12_copy_X12_noSheet
set_option maxRecDepth 100000 in
theorem ggX12_copy_X12_refused : GoodIn wsX12_copy wsX12_refused := goodIn_s _ [17, 25, 26, 27, 28, 29, 30, 31, 32, 33, 34, 35, 36, 37, 38, 39, 40, 41, 42, 43, 44, 45, 46, 47, 48, 49, 50, 51, 52, 53, 54, 55, 56, 57, 58, 59, 60, 61, 62, 63, 64, 65, 66, 67, 68, 69, 70, 71, 72, 73, 74, 75, 76, 77, 78, 79, 80, 81, 82, 83, 84, 85, 86, 87, 88, 89, 90] [16] (by decide +kernel) rfl (by decide +kernel)
set_option maxRecDepth 20000 in
theorem gX12_copy_X12_refused : GoodIn wsX12_copy (wsV RX12 158 RX12 yX12_refused wsX12_refused) := goodIn_app (goodIn_of _ (by decide +kernel)) ggX12_copy_X12_refused
set_option maxRecDepth 100000 in
theorem ggX12_copy_X12_failed : GoodIn wsX12_copy wsX12_failed := goodIn_s _ [17, 25, 26, 27, 28, 29, 30, 31, 32, 33, 34, 35, 36, 37, 38, 39, 40, 41, 42, 43, 44, 45, 46, 47, 48, 49, 50, 51, 52, 53, 54, 55, 56, 57, 58, 59, 60, 61, 62, 63, 64, 65, 66, 67, 68, 69, 70, 71, 72, 73, 74, 75, 76, 77, 78, 79, 80, 81, 82, 83, 84, 85, 86, 87, 88, 89, 90] [21] (by decide +kernel) rfl (by decide +kernel)
set_option maxRecDepth 20000 in
theorem gX12_copy_X12_failed : GoodIn wsX12_copy (wsV RX12 164 RX12 yX12_failed wsX12_failed) := goodIn_app (goodIn_of _ (by decide +kernel)) ggX12_copy_X12_failed
set_option maxRecDepth 100000 in
theorem ggX12_copy_X12_isBeyond : GoodIn wsX12_copy wsX12_isBeyond := goodIn_s _ [] [24] (by decide +kernel) rfl (by decide +kernel)
set_option maxRecDepth 20000 in
theorem gX12_copy_X12_isBeyond : GoodIn wsX12_copy (va_wsS RX12 175 yX12_isBeyond wsX12_isBeyond) := goodIn_app (goodIn_of _ (by decide +kernel)) ggX12_copy_X12_isBeyond
theorem dX12_copy_0 : decode cX12_copy 0 = .ok (.iload_n 1, 1) := by decide +kernel
theorem dX12_copy_1 : decode cX12_copy 1 = .ok (.invokestatic 154, 3) := by decide +kernel
theorem dX12_copy_4 : decode cX12_copy 4 = .ok (.ifCond .ne 10, 3) := by decide +kernel
theorem dX12_copy_7 : decode cX12_copy 7 = .ok (.iload_n 3, 1) := by decide +kernel
theorem dX12_copy_8 : decode cX12_copy 8 = .ok (.invokestatic 154, 3) := by decide +kernel
theorem dX12_copy_11 : decode cX12_copy 11 = .ok (.ifCond .eq 9, 3) := by decide +kernel
theorem dX12_copy_14 : decode cX12_copy 14 = .ok (.aload_n 0, 1) := by decide +kernel
theorem dX12_copy_15 : decode cX12_copy 15 = .ok (.iconst (-1), 1) := by decide +kernel
theorem dX12_copy_16 : decode cX12_copy 16 = .ok (.invokevirtual 158, 3) := by decide +kernel
theorem dX12_copy_19 : decode cX12_copy 19 = .ok (.ireturn, 1) := by decide +kernel
theorem dX12_copy_20 : decode cX12_copy 20 = .ok (.aload_n 0, 1) := by decide +kernel
theorem dX12_copy_21 : decode cX12_copy 21 = .ok (.getfield 7, 3) := by decide +kernel
theorem dX12_copy_24 : decode cX12_copy 24 = .ok (.iload_n 1, 1) := by decide +kernel
theorem dX12_copy_25 : decode cX12_copy 25 = .ok (.iaload, 1) := by decide +kernel
theorem dX12_copy_26 : decode cX12_copy 26 = .ok (.ifCond .lt 12, 3) := by decide +kernel
theorem dX12_copy_29 : decode cX12_copy 29 = .ok (.aload_n 0, 1) := by decide +kernel
theorem dX12_copy_30 : decode cX12_copy 30 = .ok (.getfield 7, 3) := by decide +kernel
theorem dX12_copy_33 : decode cX12_copy 33 = .ok (.iload_n 3, 1) := by decide +kernel
theorem dX12_copy_34 : decode cX12_copy 34 = .ok (.iaload, 1) := by decide +kernel
theorem dX12_copy_35 : decode cX12_copy 35 = .ok (.ifCond .ge 9, 3) := by decide +kernel
theorem dX12_copy_38 : decode cX12_copy 38 = .ok (.aload_n 0, 1) := by decide +kernel
theorem dX12_copy_39 : decode cX12_copy 39 = .ok (.iconst 1, 1) := by decide +kernel
theorem dX12_copy_40 : decode cX12_copy 40 = .ok (.invokevirtual 164, 3) := by decide +kernel
theorem dX12_copy_43 : decode cX12_copy 43 = .ok (.ireturn, 1) := by decide +kernel
theorem dX12_copy_44 : decode cX12_copy 44 = .ok (.aload_n 0, 1) := by decide +kernel
theorem dX12_copy_45 : decode cX12_copy 45 = .ok (.getfield 13, 3) := by decide +kernel
theorem dX12_copy_48 : decode cX12_copy 48 = .ok (.iload_n 1, 1) := by decide +kernel
theorem dX12_copy_49 : decode cX12_copy 49 = .ok (.iaload, 1) := by decide +kernel
theorem dX12_copy_50 : decode cX12_copy 50 = .ok (.aload_n 0, 1) := by decide +kernel
theorem dX12_copy_51 : decode cX12_copy 51 = .ok (.getfield 13, 3) := by decide +kernel
theorem dX12_copy_54 : decode cX12_copy 54 = .ok (.iload_n 3, 1) := by decide +kernel
theorem dX12_copy_55 : decode cX12_copy 55 = .ok (.iaload, 1) := by decide +kernel
theorem dX12_copy_56 : decode cX12_copy 56 = .ok (.if_icmp .eq 9, 3) := by decide +kernel
theorem dX12_copy_59 : decode cX12_copy 59 = .ok (.aload_n 0, 1) := by decide +kernel
theorem dX12_copy_60 : decode cX12_copy 60 = .ok (.iconst 2, 1) := by decide +kernel
theorem dX12_copy_61 : decode cX12_copy 61 = .ok (.invokevirtual 164, 3) := by decide +kernel
theorem dX12_copy_64 : decode cX12_copy 64 = .ok (.ireturn, 1) := by decide +kernel
theorem dX12_copy_65 : decode cX12_copy 65 = .ok (.iload_n 2, 1) := by decide +kernel
theorem dX12_copy_66 : decode cX12_copy 66 = .ok (.iload 5, 2) := by decide +kernel
theorem dX12_copy_68 : decode cX12_copy 68 = .ok (.aload_n 0, 1) := by decide +kernel
theorem dX12_copy_69 : decode cX12_copy 69 = .ok (.getfield 7, 3) := by decide +kernel
theorem dX12_copy_72 : decode cX12_copy 72 = .ok (.iload_n 1, 1) := by decide +kernel
theorem dX12_copy_73 : decode cX12_copy 73 = .ok (.iaload, 1) := by decide +kernel
theorem dX12_copy_74 : decode cX12_copy 74 = .ok (.invokestatic 175, 3) := by decide +kernel
theorem dX12_copy_77 : decode cX12_copy 77 = .ok (.ifCond .ne 19, 3) := by decide +kernel
theorem dX12_copy_80 : decode cX12_copy 80 = .ok (.iload 4, 2) := by decide +kernel
theorem dX12_copy_82 : decode cX12_copy 82 = .ok (.iload 5, 2) := by decide +kernel
theorem dX12_copy_84 : decode cX12_copy 84 = .ok (.aload_n 0, 1) := by decide +kernel
theorem dX12_copy_85 : decode cX12_copy 85 = .ok (.getfield 7, 3) := by decide +kernel
theorem dX12_copy_88 : decode cX12_copy 88 = .ok (.iload_n 3, 1) := by decide +kernel
theorem dX12_copy_89 : decode cX12_copy 89 = .ok (.iaload, 1) := by decide +kernel
theorem dX12_copy_90 : decode cX12_copy 90 = .ok (.invokestatic 175, 3) := by decide +kernel
theorem dX12_copy_93 : decode cX12_copy 93 = .ok (.ifCond .eq 9, 3) := by decide +kernel
theorem dX12_copy_96 : decode cX12_copy 96 = .ok (.aload_n 0, 1) := by decide +kernel
theorem dX12_copy_97 : decode cX12_copy 97 = .ok (.iconst 3, 1) := by decide +kernel
theorem dX12_copy_98 : decode cX12_copy 98 = .ok (.invokevirtual 164, 3) := by decide +kernel
theorem dX12_copy_101 : decode cX12_copy 101 = .ok (.ireturn, 1) := by decide +kernel
theorem dX12_copy_102 : decode cX12_copy 102 = .ok (.iconst 0, 1) := by decide +kernel
theorem dX12_copy_103 : decode cX12_copy 103 = .ok (.istore 6, 2) := by decide +kernel
theorem dX12_copy_105 : decode cX12_copy 105 = .ok (.iload 6, 2) := by decide +kernel
theorem dX12_copy_107 : decode cX12_copy 107 = .ok (.iload 5, 2) := by decide +kernel
theorem dX12_copy_109 : decode cX12_copy 109 = .ok (.if_icmp .ge 30, 3) := by decide +kernel
theorem dX12_copy_112 : decode cX12_copy 112 = .ok (.aload_n 0, 1) := by decide +kernel
theorem dX12_copy_113 : decode cX12_copy 113 = .ok (.getfield 19, 3) := by decide +kernel
theorem dX12_copy_116 : decode cX12_copy 116 = .ok (.iload 6, 2) := by decide +kernel
theorem dX12_copy_118 : decode cX12_copy 118 = .ok (.aload_n 0, 1) := by decide +kernel
theorem dX12_copy_119 : decode cX12_copy 119 = .ok (.getfield 16, 3) := by decide +kernel
theorem dX12_copy_122 : decode cX12_copy 122 = .ok (.bipush 20, 2) := by decide +kernel
theorem dX12_copy_124 : decode cX12_copy 124 = .ok (.iload_n 1, 1) := by decide +kernel
theorem dX12_copy_125 : decode cX12_copy 125 = .ok (.imul, 1) := by decide +kernel
theorem dX12_copy_126 : decode cX12_copy 126 = .ok (.iload_n 2, 1) := by decide +kernel
theorem dX12_copy_127 : decode cX12_copy 127 = .ok (.iadd, 1) := by decide +kernel
theorem dX12_copy_128 : decode cX12_copy 128 = .ok (.iload 6, 2) := by decide +kernel
theorem dX12_copy_130 : decode cX12_copy 130 = .ok (.iadd, 1) := by decide +kernel
theorem dX12_copy_131 : decode cX12_copy 131 = .ok (.iaload, 1) := by decide +kernel
theorem dX12_copy_132 : decode cX12_copy 132 = .ok (.iastore, 1) := by decide +kernel
theorem dX12_copy_133 : decode cX12_copy 133 = .ok (.iinc 6 1, 3) := by decide +kernel
theorem dX12_copy_136 : decode cX12_copy 136 = .ok (.goto (-31), 3) := by decide +kernel
theorem dX12_copy_139 : decode cX12_copy 139 = .ok (.iconst 0, 1) := by decide +kernel
theorem dX12_copy_140 : decode cX12_copy 140 = .ok (.istore 6, 2) := by decide +kernel
theorem dX12_copy_142 : decode cX12_copy 142 = .ok (.iload 6, 2) := by decide +kernel
theorem dX12_copy_144 : decode cX12_copy 144 = .ok (.iload 5, 2) := by decide +kernel
theorem dX12_copy_146 : decode cX12_copy 146 = .ok (.if_icmp .ge 31, 3) := by decide +kernel
theorem dX12_copy_149 : decode cX12_copy 149 = .ok (.aload_n 0, 1) := by decide +kernel
theorem dX12_copy_150 : decode cX12_copy 150 = .ok (.getfield 16, 3) := by decide +kernel
theorem dX12_copy_153 : decode cX12_copy 153 = .ok (.bipush 20, 2) := by decide +kernel
theorem dX12_copy_155 : decode cX12_copy 155 = .ok (.iload_n 3, 1) := by decide +kernel
theorem dX12_copy_156 : decode cX12_copy 156 = .ok (.imul, 1) := by decide +kernel
theorem dX12_copy_157 : decode cX12_copy 157 = .ok (.iload 4, 2) := by decide +kernel
theorem dX12_copy_159 : decode cX12_copy 159 = .ok (.iadd, 1) := by decide +kernel
theorem dX12_copy_160 : decode cX12_copy 160 = .ok (.iload 6, 2) := by decide +kernel
theorem dX12_copy_162 : decode cX12_copy 162 = .ok (.iadd, 1) := by decide +kernel
theorem dX12_copy_163 : decode cX12_copy 163 = .ok (.aload_n 0, 1) := by decide +kernel
theorem dX12_copy_164 : decode cX12_copy 164 = .ok (.getfield 19, 3) := by decide +kernel
theorem dX12_copy_167 : decode cX12_copy 167 = .ok (.iload 6, 2) := by decide +kernel
theorem dX12_copy_169 : decode cX12_copy 169 = .ok (.iaload, 1) := by decide +kernel
theorem dX12_copy_170 : decode cX12_copy 170 = .ok (.iastore, 1) := by decide +kernel
theorem dX12_copy_171 : decode cX12_copy 171 = .ok (.iinc 6 1, 3) := by decide +kernel
theorem dX12_copy_174 : decode cX12_copy 174 = .ok (.goto (-32), 3) := by decide +kernel
theorem dX12_copy_177 : decode cX12_copy 177 = .ok (.aload_n 0, 1) := by decide +kernel
theorem dX12_copy_178 : decode cX12_copy 178 = .ok (.iload 5, 2) := by decide +kernel
theorem dX12_copy_180 : decode cX12_copy 180 = .ok (.invokevirtual 158, 3) := by decide +kernel
theorem dX12_copy_183 : decode cX12_copy 183 = .ok (.ireturn, 1) := by decide +kernel
set_option maxRecDepth 100000 in
theorem ggX12_noCylinder_X12_in : GoodIn wsX12_noCylinder wsX12_in := goodIn_s _ [] [5] (by decide +kernel) rfl (by decide +kernel)
set_option maxRecDepth 20000 in
theorem gX12_noCylinder_X12_in : GoodIn wsX12_noCylinder (va_wsS RX12 150 yX12_in wsX12_in) := goodIn_app (goodIn_of _ (by decide +kernel)) ggX12_noCylinder_X12_in
theorem dX12_noCylinder_0 : decode cX12_noCylinder 0 = .ok (.iload_n 1, 1) := by decide +kernel
theorem dX12_noCylinder_1 : decode cX12_noCylinder 1 = .ok (.i2l, 1) := by decide +kernel
theorem dX12_noCylinder_2 : decode cX12_noCylinder 2 = .ok (.lconst 0, 1) := by decide +kernel
theorem dX12_noCylinder_3 : decode cX12_noCylinder 3 = .ok (.aload_n 0, 1) := by decide +kernel
theorem dX12_noCylinder_4 : decode cX12_noCylinder 4 = .ok (.getfield 179, 3) := by decide +kernel
theorem dX12_noCylinder_7 : decode cX12_noCylinder 7 = .ok (.i2l, 1) := by decide +kernel
theorem dX12_noCylinder_8 : decode cX12_noCylinder 8 = .ok (.lconst 1, 1) := by decide +kernel
theorem dX12_noCylinder_9 : decode cX12_noCylinder 9 = .ok (.lsub, 1) := by decide +kernel
theorem dX12_noCylinder_10 : decode cX12_noCylinder 10 = .ok (.invokestatic 150, 3) := by decide +kernel
theorem dX12_noCylinder_13 : decode cX12_noCylinder 13 = .ok (.ifCond .ne 7, 3) := by decide +kernel
theorem dX12_noCylinder_16 : decode cX12_noCylinder 16 = .ok (.iconst 1, 1) := by decide +kernel
theorem dX12_noCylinder_17 : decode cX12_noCylinder 17 = .ok (.goto 4, 3) := by decide +kernel
theorem dX12_noCylinder_20 : decode cX12_noCylinder 20 = .ok (.iconst 0, 1) := by decide +kernel
theorem dX12_noCylinder_21 : decode cX12_noCylinder 21 = .ok (.ireturn, 1) := by decide +kernel
set_option maxRecDepth 100000 in
theorem ggX12_pump_X12_in : GoodIn wsX12_pump wsX12_in := goodIn_s _ [] [7] (by decide +kernel) rfl (by decide +kernel)
set_option maxRecDepth 20000 in
theorem gX12_pump_X12_in : GoodIn wsX12_pump (va_wsS RX12 150 yX12_in wsX12_in) := goodIn_app (goodIn_of _ (by decide +kernel)) ggX12_pump_X12_in
theorem dX12_pump_0 : decode cX12_pump 0 = .ok (.iload_n 1, 1) := by decide +kernel
theorem dX12_pump_1 : decode cX12_pump 1 = .ok (.i2l, 1) := by decide +kernel
theorem dX12_pump_2 : decode cX12_pump 2 = .ok (.lconst 0, 1) := by decide +kernel
theorem dX12_pump_3 : decode cX12_pump 3 = .ok (.lconst 1, 1) := by decide +kernel
theorem dX12_pump_4 : decode cX12_pump 4 = .ok (.invokestatic 150, 3) := by decide +kernel
theorem dX12_pump_7 : decode cX12_pump 7 = .ok (.ifCond .ne 5, 3) := by decide +kernel
theorem dX12_pump_10 : decode cX12_pump 10 = .ok (.iconst (-1), 1) := by decide +kernel
theorem dX12_pump_11 : decode cX12_pump 11 = .ok (.ireturn, 1) := by decide +kernel
theorem dX12_pump_12 : decode cX12_pump 12 = .ok (.iload_n 2, 1) := by decide +kernel
theorem dX12_pump_13 : decode cX12_pump 13 = .ok (.i2l, 1) := by decide +kernel
theorem dX12_pump_14 : decode cX12_pump 14 = .ok (.iload_n 1, 1) := by decide +kernel
theorem dX12_pump_15 : decode cX12_pump 15 = .ok (.i2l, 1) := by decide +kernel
theorem dX12_pump_16 : decode cX12_pump 16 = .ok (.ldc2_w 182, 3) := by decide +kernel
theorem dX12_pump_19 : decode cX12_pump 19 = .ok (.invokestatic 150, 3) := by decide +kernel
theorem dX12_pump_22 : decode cX12_pump 22 = .ok (.ifCond .ne 6, 3) := by decide +kernel
theorem dX12_pump_25 : decode cX12_pump 25 = .ok (.bipush (-2), 2) := by decide +kernel
theorem dX12_pump_27 : decode cX12_pump 27 = .ok (.ireturn, 1) := by decide +kernel
theorem dX12_pump_28 : decode cX12_pump 28 = .ok (.iload_n 1, 1) := by decide +kernel
theorem dX12_pump_29 : decode cX12_pump 29 = .ok (.ifCond .ne 10, 3) := by decide +kernel
theorem dX12_pump_32 : decode cX12_pump 32 = .ok (.aload_n 0, 1) := by decide +kernel
theorem dX12_pump_33 : decode cX12_pump 33 = .ok (.getfield 184, 3) := by decide +kernel
theorem dX12_pump_36 : decode cX12_pump 36 = .ok (.goto 7, 3) := by decide +kernel
theorem dX12_pump_39 : decode cX12_pump 39 = .ok (.aload_n 0, 1) := by decide +kernel
theorem dX12_pump_40 : decode cX12_pump 40 = .ok (.getfield 129, 3) := by decide +kernel
theorem dX12_pump_43 : decode cX12_pump 43 = .ok (.istore_n 3, 1) := by decide +kernel
theorem dX12_pump_44 : decode cX12_pump 44 = .ok (.aload_n 0, 1) := by decide +kernel
theorem dX12_pump_45 : decode cX12_pump 45 = .ok (.iload_n 1, 1) := by decide +kernel
theorem dX12_pump_46 : decode cX12_pump 46 = .ok (.ifCond .ne 7, 3) := by decide +kernel
theorem dX12_pump_49 : decode cX12_pump 49 = .ok (.iload_n 2, 1) := by decide +kernel
theorem dX12_pump_50 : decode cX12_pump 50 = .ok (.goto 7, 3) := by decide +kernel
theorem dX12_pump_53 : decode cX12_pump 53 = .ok (.aload_n 0, 1) := by decide +kernel
theorem dX12_pump_54 : decode cX12_pump 54 = .ok (.getfield 184, 3) := by decide +kernel
theorem dX12_pump_57 : decode cX12_pump 57 = .ok (.putfield 184, 3) := by decide +kernel
theorem dX12_pump_60 : decode cX12_pump 60 = .ok (.aload_n 0, 1) := by decide +kernel
theorem dX12_pump_61 : decode cX12_pump 61 = .ok (.iload_n 1, 1) := by decide +kernel
theorem dX12_pump_62 : decode cX12_pump 62 = .ok (.iconst 1, 1) := by decide +kernel
theorem dX12_pump_63 : decode cX12_pump 63 = .ok (.if_icmp .ne 7, 3) := by decide +kernel
theorem dX12_pump_66 : decode cX12_pump 66 = .ok (.iload_n 2, 1) := by decide +kernel
theorem dX12_pump_67 : decode cX12_pump 67 = .ok (.goto 7, 3) := by decide +kernel
theorem dX12_pump_70 : decode cX12_pump 70 = .ok (.aload_n 0, 1) := by decide +kernel
theorem dX12_pump_71 : decode cX12_pump 71 = .ok (.getfield 129, 3) := by decide +kernel
theorem dX12_pump_74 : decode cX12_pump 74 = .ok (.putfield 129, 3) := by decide +kernel
theorem dX12_pump_77 : decode cX12_pump 77 = .ok (.iload_n 3, 1) := by decide +kernel
theorem dX12_pump_78 : decode cX12_pump 78 = .ok (.ireturn, 1) := by decide +kernel
set_option maxRecDepth 100000 in
theorem ggX12_cylinder_X12_in : GoodIn wsX12_cylinder wsX12_in := goodIn_s _ [] [12] (by decide +kernel) rfl (by decide +kernel)
set_option maxRecDepth 20000 in
theorem gX12_cylinder_X12_in : GoodIn wsX12_cylinder (va_wsS RX12 150 yX12_in wsX12_in) := goodIn_app (goodIn_of _ (by decide +kernel)) ggX12_cylinder_X12_in
theorem dX12_cylinder_0 : decode cX12_cylinder 0 = .ok (.iload_n 1, 1) := by decide +kernel
theorem dX12_cylinder_1 : decode cX12_cylinder 1 = .ok (.i2l, 1) := by decide +kernel
theorem dX12_cylinder_2 : decode cX12_cylinder 2 = .ok (.lconst 0, 1) := by decide +kernel
theorem dX12_cylinder_3 : decode cX12_cylinder 3 = .ok (.ldc2_w 162, 3) := by decide +kernel
theorem dX12_cylinder_6 : decode cX12_cylinder 6 = .ok (.invokestatic 150, 3) := by decide +kernel
theorem dX12_cylinder_9 : decode cX12_cylinder 9 = .ok (.ifCond .eq 27, 3) := by decide +kernel
theorem dX12_cylinder_12 : decode cX12_cylinder 12 = .ok (.iload_n 2, 1) := by decide +kernel
theorem dX12_cylinder_13 : decode cX12_cylinder 13 = .ok (.i2l, 1) := by decide +kernel
theorem dX12_cylinder_14 : decode cX12_cylinder 14 = .ok (.lconst 1, 1) := by decide +kernel
theorem dX12_cylinder_15 : decode cX12_cylinder 15 = .ok (.ldc2_w 187, 3) := by decide +kernel
theorem dX12_cylinder_18 : decode cX12_cylinder 18 = .ok (.invokestatic 150, 3) := by decide +kernel
theorem dX12_cylinder_21 : decode cX12_cylinder 21 = .ok (.ifCond .eq 15, 3) := by decide +kernel
theorem dX12_cylinder_24 : decode cX12_cylinder 24 = .ok (.iload_n 3, 1) := by decide +kernel
theorem dX12_cylinder_25 : decode cX12_cylinder 25 = .ok (.i2l, 1) := by decide +kernel
theorem dX12_cylinder_26 : decode cX12_cylinder 26 = .ok (.lconst 1, 1) := by decide +kernel
theorem dX12_cylinder_27 : decode cX12_cylinder 27 = .ok (.ldc2_w 187, 3) := by decide +kernel
theorem dX12_cylinder_30 : decode cX12_cylinder 30 = .ok (.invokestatic 150, 3) := by decide +kernel
theorem dX12_cylinder_33 : decode cX12_cylinder 33 = .ok (.ifCond .ne 6, 3) := by decide +kernel
theorem dX12_cylinder_36 : decode cX12_cylinder 36 = .ok (.bipush (-2), 2) := by decide +kernel
theorem dX12_cylinder_38 : decode cX12_cylinder 38 = .ok (.ireturn, 1) := by decide +kernel
theorem dX12_cylinder_39 : decode cX12_cylinder 39 = .ok (.aload_n 0, 1) := by decide +kernel
theorem dX12_cylinder_40 : decode cX12_cylinder 40 = .ok (.getfield 179, 3) := by decide +kernel
theorem dX12_cylinder_43 : decode cX12_cylinder 43 = .ok (.bipush 6, 2) := by decide +kernel
theorem dX12_cylinder_45 : decode cX12_cylinder 45 = .ok (.if_icmp .ne 6, 3) := by decide +kernel
theorem dX12_cylinder_48 : decode cX12_cylinder 48 = .ok (.bipush (-4), 2) := by decide +kernel
theorem dX12_cylinder_50 : decode cX12_cylinder 50 = .ok (.ireturn, 1) := by decide +kernel
theorem dX12_cylinder_51 : decode cX12_cylinder 51 = .ok (.aload_n 0, 1) := by decide +kernel
theorem dX12_cylinder_52 : decode cX12_cylinder 52 = .ok (.getfield 22, 3) := by decide +kernel
theorem dX12_cylinder_55 : decode cX12_cylinder 55 = .ok (.aload_n 0, 1) := by decide +kernel
theorem dX12_cylinder_56 : decode cX12_cylinder 56 = .ok (.getfield 179, 3) := by decide +kernel
theorem dX12_cylinder_59 : decode cX12_cylinder 59 = .ok (.iload_n 1, 1) := by decide +kernel
theorem dX12_cylinder_60 : decode cX12_cylinder 60 = .ok (.iastore, 1) := by decide +kernel
theorem dX12_cylinder_61 : decode cX12_cylinder 61 = .ok (.aload_n 0, 1) := by decide +kernel
theorem dX12_cylinder_62 : decode cX12_cylinder 62 = .ok (.getfield 25, 3) := by decide +kernel
theorem dX12_cylinder_65 : decode cX12_cylinder 65 = .ok (.aload_n 0, 1) := by decide +kernel
theorem dX12_cylinder_66 : decode cX12_cylinder 66 = .ok (.getfield 179, 3) := by decide +kernel
theorem dX12_cylinder_69 : decode cX12_cylinder 69 = .ok (.iload_n 2, 1) := by decide +kernel
theorem dX12_cylinder_70 : decode cX12_cylinder 70 = .ok (.iastore, 1) := by decide +kernel
theorem dX12_cylinder_71 : decode cX12_cylinder 71 = .ok (.aload_n 0, 1) := by decide +kernel
theorem dX12_cylinder_72 : decode cX12_cylinder 72 = .ok (.getfield 28, 3) := by decide +kernel
theorem dX12_cylinder_75 : decode cX12_cylinder 75 = .ok (.aload_n 0, 1) := by decide +kernel
theorem dX12_cylinder_76 : decode cX12_cylinder 76 = .ok (.getfield 179, 3) := by decide +kernel
theorem dX12_cylinder_79 : decode cX12_cylinder 79 = .ok (.iload_n 3, 1) := by decide +kernel
theorem dX12_cylinder_80 : decode cX12_cylinder 80 = .ok (.iastore, 1) := by decide +kernel
theorem dX12_cylinder_81 : decode cX12_cylinder 81 = .ok (.aload_n 0, 1) := by decide +kernel
theorem dX12_cylinder_82 : decode cX12_cylinder 82 = .ok (.getfield 34, 3) := by decide +kernel
theorem dX12_cylinder_85 : decode cX12_cylinder 85 = .ok (.aload_n 0, 1) := by decide +kernel
theorem dX12_cylinder_86 : decode cX12_cylinder 86 = .ok (.getfield 179, 3) := by decide +kernel
theorem dX12_cylinder_89 : decode cX12_cylinder 89 = .ok (.iconst 1, 1) := by decide +kernel
theorem dX12_cylinder_90 : decode cX12_cylinder 90 = .ok (.iastore, 1) := by decide +kernel
theorem dX12_cylinder_91 : decode cX12_cylinder 91 = .ok (.aload_n 0, 1) := by decide +kernel
theorem dX12_cylinder_92 : decode cX12_cylinder 92 = .ok (.getfield 43, 3) := by decide +kernel
theorem dX12_cylinder_95 : decode cX12_cylinder 95 = .ok (.aload_n 0, 1) := by decide +kernel
theorem dX12_cylinder_96 : decode cX12_cylinder 96 = .ok (.getfield 179, 3) := by decide +kernel
theorem dX12_cylinder_99 : decode cX12_cylinder 99 = .ok (.sipush 1000, 3) := by decide +kernel
theorem dX12_cylinder_102 : decode cX12_cylinder 102 = .ok (.iastore, 1) := by decide +kernel
theorem dX12_cylinder_103 : decode cX12_cylinder 103 = .ok (.aload_n 0, 1) := by decide +kernel
theorem dX12_cylinder_104 : decode cX12_cylinder 104 = .ok (.dup, 1) := by decide +kernel
theorem dX12_cylinder_105 : decode cX12_cylinder 105 = .ok (.getfield 179, 3) := by decide +kernel
theorem dX12_cylinder_108 : decode cX12_cylinder 108 = .ok (.iconst 1, 1) := by decide +kernel
theorem dX12_cylinder_109 : decode cX12_cylinder 109 = .ok (.iadd, 1) := by decide +kernel
theorem dX12_cylinder_110 : decode cX12_cylinder 110 = .ok (.putfield 179, 3) := by decide +kernel
theorem dX12_cylinder_113 : decode cX12_cylinder 113 = .ok (.aload_n 0, 1) := by decide +kernel
theorem dX12_cylinder_114 : decode cX12_cylinder 114 = .ok (.getfield 179, 3) := by decide +kernel
theorem dX12_cylinder_117 : decode cX12_cylinder 117 = .ok (.iconst 1, 1) := by decide +kernel
theorem dX12_cylinder_118 : decode cX12_cylinder 118 = .ok (.isub, 1) := by decide +kernel
theorem dX12_cylinder_119 : decode cX12_cylinder 119 = .ok (.ireturn, 1) := by decide +kernel
set_option maxRecDepth 100000 in
theorem ggX12_rule_X12_noCylinder : GoodIn wsX12_rule wsX12_noCylinder := goodIn_s _ [13, 14, 15, 11, 17, 18, 19, 20, 21, 22, 23, 24, 25, 26, 27, 28, 29, 30, 31, 32, 33, 34, 35, 36, 37, 38, 39, 40, 41, 42, 43, 44, 45, 46, 47, 48, 49, 50, 51, 52, 53, 54, 55, 56, 57, 58, 59, 60, 61, 62, 63, 64, 65, 66, 67, 68, 69, 70, 71, 72, 73, 74, 75, 76, 77, 78, 79, 80, 81, 82] [12, 16] (by decide +kernel) rfl (by decide +kernel)
set_option maxRecDepth 20000 in
theorem gX12_rule_X12_noCylinder : GoodIn wsX12_rule (wsV RX12 189 RX12 yX12_noCylinder wsX12_noCylinder) := goodIn_app (goodIn_of _ (by decide +kernel)) ggX12_rule_X12_noCylinder
set_option maxRecDepth 100000 in
theorem ggX12_rule_X12_in : GoodIn wsX12_rule wsX12_in := goodIn_s _ [] [16] (by decide +kernel) rfl (by decide +kernel)
set_option maxRecDepth 20000 in
theorem gX12_rule_X12_in : GoodIn wsX12_rule (va_wsS RX12 150 yX12_in wsX12_in) := goodIn_app (goodIn_of _ (by decide +kernel)) ggX12_rule_X12_in
theorem dX12_rule_0 : decode cX12_rule 0 = .ok (.aload_n 0, 1) := by decide +kernel
theorem dX12_rule_1 : decode cX12_rule 1 = .ok (.iload_n 1, 1) := by decide +kernel
theorem dX12_rule_2 : decode cX12_rule 2 = .ok (.invokevirtual 189, 3) := by decide +kernel
theorem dX12_rule_5 : decode cX12_rule 5 = .ok (.ifCond .ne 15, 3) := by decide +kernel
theorem dX12_rule_8 : decode cX12_rule 8 = .ok (.iload_n 2, 1) := by decide +kernel
theorem dX12_rule_9 : decode cX12_rule 9 = .ok (.i2l, 1) := by decide +kernel
theorem dX12_rule_10 : decode cX12_rule 10 = .ok (.lconst 0, 1) := by decide +kernel
theorem dX12_rule_11 : decode cX12_rule 11 = .ok (.ldc2_w 162, 3) := by decide +kernel
theorem dX12_rule_14 : decode cX12_rule 14 = .ok (.invokestatic 150, 3) := by decide +kernel
theorem dX12_rule_17 : decode cX12_rule 17 = .ok (.ifCond .ne 5, 3) := by decide +kernel
theorem dX12_rule_20 : decode cX12_rule 20 = .ok (.iconst (-1), 1) := by decide +kernel
theorem dX12_rule_21 : decode cX12_rule 21 = .ok (.ireturn, 1) := by decide +kernel
theorem dX12_rule_22 : decode cX12_rule 22 = .ok (.iload_n 3, 1) := by decide +kernel
theorem dX12_rule_23 : decode cX12_rule 23 = .ok (.i2l, 1) := by decide +kernel
theorem dX12_rule_24 : decode cX12_rule 24 = .ok (.iload_n 2, 1) := by decide +kernel
theorem dX12_rule_25 : decode cX12_rule 25 = .ok (.iconst 1, 1) := by decide +kernel
theorem dX12_rule_26 : decode cX12_rule 26 = .ok (.if_icmp .ne 7, 3) := by decide +kernel
theorem dX12_rule_29 : decode cX12_rule 29 = .ok (.lconst 1, 1) := by decide +kernel
theorem dX12_rule_30 : decode cX12_rule 30 = .ok (.goto 4, 3) := by decide +kernel
theorem dX12_rule_33 : decode cX12_rule 33 = .ok (.lconst 0, 1) := by decide +kernel
theorem dX12_rule_34 : decode cX12_rule 34 = .ok (.iload_n 2, 1) := by decide +kernel
theorem dX12_rule_35 : decode cX12_rule 35 = .ok (.ifCond .ne 9, 3) := by decide +kernel
theorem dX12_rule_38 : decode cX12_rule 38 = .ok (.ldc2_w 192, 3) := by decide +kernel
theorem dX12_rule_41 : decode cX12_rule 41 = .ok (.goto 17, 3) := by decide +kernel
theorem dX12_rule_44 : decode cX12_rule 44 = .ok (.iload_n 2, 1) := by decide +kernel
theorem dX12_rule_45 : decode cX12_rule 45 = .ok (.iconst 1, 1) := by decide +kernel
theorem dX12_rule_46 : decode cX12_rule 46 = .ok (.if_icmp .ne 9, 3) := by decide +kernel
theorem dX12_rule_49 : decode cX12_rule 49 = .ok (.ldc2_w 182, 3) := by decide +kernel
theorem dX12_rule_52 : decode cX12_rule 52 = .ok (.goto 6, 3) := by decide +kernel
theorem dX12_rule_55 : decode cX12_rule 55 = .ok (.ldc2_w 187, 3) := by decide +kernel
theorem dX12_rule_58 : decode cX12_rule 58 = .ok (.invokestatic 150, 3) := by decide +kernel
theorem dX12_rule_61 : decode cX12_rule 61 = .ok (.ifCond .ne 6, 3) := by decide +kernel
theorem dX12_rule_64 : decode cX12_rule 64 = .ok (.bipush (-2), 2) := by decide +kernel
theorem dX12_rule_66 : decode cX12_rule 66 = .ok (.ireturn, 1) := by decide +kernel
theorem dX12_rule_67 : decode cX12_rule 67 = .ok (.iload_n 2, 1) := by decide +kernel
theorem dX12_rule_68 : decode cX12_rule 68 = .ok (.ifCond .ne 12, 3) := by decide +kernel
theorem dX12_rule_71 : decode cX12_rule 71 = .ok (.aload_n 0, 1) := by decide +kernel
theorem dX12_rule_72 : decode cX12_rule 72 = .ok (.getfield 40, 3) := by decide +kernel
theorem dX12_rule_75 : decode cX12_rule 75 = .ok (.iload_n 1, 1) := by decide +kernel
theorem dX12_rule_76 : decode cX12_rule 76 = .ok (.iaload, 1) := by decide +kernel
theorem dX12_rule_77 : decode cX12_rule 77 = .ok (.goto 23, 3) := by decide +kernel
theorem dX12_rule_80 : decode cX12_rule 80 = .ok (.iload_n 2, 1) := by decide +kernel
theorem dX12_rule_81 : decode cX12_rule 81 = .ok (.iconst 1, 1) := by decide +kernel
theorem dX12_rule_82 : decode cX12_rule 82 = .ok (.if_icmp .ne 12, 3) := by decide +kernel
theorem dX12_rule_85 : decode cX12_rule 85 = .ok (.aload_n 0, 1) := by decide +kernel
theorem dX12_rule_86 : decode cX12_rule 86 = .ok (.getfield 43, 3) := by decide +kernel
theorem dX12_rule_89 : decode cX12_rule 89 = .ok (.iload_n 1, 1) := by decide +kernel
theorem dX12_rule_90 : decode cX12_rule 90 = .ok (.iaload, 1) := by decide +kernel
theorem dX12_rule_91 : decode cX12_rule 91 = .ok (.goto 9, 3) := by decide +kernel
theorem dX12_rule_94 : decode cX12_rule 94 = .ok (.aload_n 0, 1) := by decide +kernel
theorem dX12_rule_95 : decode cX12_rule 95 = .ok (.getfield 46, 3) := by decide +kernel
theorem dX12_rule_98 : decode cX12_rule 98 = .ok (.iload_n 1, 1) := by decide +kernel
theorem dX12_rule_99 : decode cX12_rule 99 = .ok (.iaload, 1) := by decide +kernel
theorem dX12_rule_100 : decode cX12_rule 100 = .ok (.istore 4, 2) := by decide +kernel
theorem dX12_rule_102 : decode cX12_rule 102 = .ok (.aload_n 0, 1) := by decide +kernel
theorem dX12_rule_103 : decode cX12_rule 103 = .ok (.getfield 40, 3) := by decide +kernel
theorem dX12_rule_106 : decode cX12_rule 106 = .ok (.iload_n 1, 1) := by decide +kernel
theorem dX12_rule_107 : decode cX12_rule 107 = .ok (.iload_n 2, 1) := by decide +kernel
theorem dX12_rule_108 : decode cX12_rule 108 = .ok (.ifCond .ne 7, 3) := by decide +kernel
theorem dX12_rule_111 : decode cX12_rule 111 = .ok (.iload_n 3, 1) := by decide +kernel
theorem dX12_rule_112 : decode cX12_rule 112 = .ok (.goto 9, 3) := by decide +kernel
theorem dX12_rule_115 : decode cX12_rule 115 = .ok (.aload_n 0, 1) := by decide +kernel
theorem dX12_rule_116 : decode cX12_rule 116 = .ok (.getfield 40, 3) := by decide +kernel
theorem dX12_rule_119 : decode cX12_rule 119 = .ok (.iload_n 1, 1) := by decide +kernel
theorem dX12_rule_120 : decode cX12_rule 120 = .ok (.iaload, 1) := by decide +kernel
theorem dX12_rule_121 : decode cX12_rule 121 = .ok (.iastore, 1) := by decide +kernel
theorem dX12_rule_122 : decode cX12_rule 122 = .ok (.aload_n 0, 1) := by decide +kernel
theorem dX12_rule_123 : decode cX12_rule 123 = .ok (.getfield 43, 3) := by decide +kernel
theorem dX12_rule_126 : decode cX12_rule 126 = .ok (.iload_n 1, 1) := by decide +kernel
theorem dX12_rule_127 : decode cX12_rule 127 = .ok (.iload_n 2, 1) := by decide +kernel
theorem dX12_rule_128 : decode cX12_rule 128 = .ok (.iconst 1, 1) := by decide +kernel
theorem dX12_rule_129 : decode cX12_rule 129 = .ok (.if_icmp .ne 7, 3) := by decide +kernel
theorem dX12_rule_132 : decode cX12_rule 132 = .ok (.iload_n 3, 1) := by decide +kernel
theorem dX12_rule_133 : decode cX12_rule 133 = .ok (.goto 9, 3) := by decide +kernel
theorem dX12_rule_136 : decode cX12_rule 136 = .ok (.aload_n 0, 1) := by decide +kernel
theorem dX12_rule_137 : decode cX12_rule 137 = .ok (.getfield 43, 3) := by decide +kernel
theorem dX12_rule_140 : decode cX12_rule 140 = .ok (.iload_n 1, 1) := by decide +kernel
theorem dX12_rule_141 : decode cX12_rule 141 = .ok (.iaload, 1) := by decide +kernel
theorem dX12_rule_142 : decode cX12_rule 142 = .ok (.iastore, 1) := by decide +kernel
theorem dX12_rule_143 : decode cX12_rule 143 = .ok (.aload_n 0, 1) := by decide +kernel
theorem dX12_rule_144 : decode cX12_rule 144 = .ok (.getfield 46, 3) := by decide +kernel
theorem dX12_rule_147 : decode cX12_rule 147 = .ok (.iload_n 1, 1) := by decide +kernel
theorem dX12_rule_148 : decode cX12_rule 148 = .ok (.iload_n 2, 1) := by decide +kernel
theorem dX12_rule_149 : decode cX12_rule 149 = .ok (.iconst 2, 1) := by decide +kernel
theorem dX12_rule_150 : decode cX12_rule 150 = .ok (.if_icmp .ne 7, 3) := by decide +kernel
theorem dX12_rule_153 : decode cX12_rule 153 = .ok (.iload_n 3, 1) := by decide +kernel
theorem dX12_rule_154 : decode cX12_rule 154 = .ok (.goto 9, 3) := by decide +kernel
theorem dX12_rule_157 : decode cX12_rule 157 = .ok (.aload_n 0, 1) := by decide +kernel
theorem dX12_rule_158 : decode cX12_rule 158 = .ok (.getfield 46, 3) := by decide +kernel
