theorem dX12_leak_89 : decode cX12_leak 89 = .ok (.iload_n 3, 1) := by decide +kernel
theorem dX12_leak_90 : decode cX12_leak 90 = .ok (.iload 4, 2) := by decide +kernel
theorem dX12_leak_92 : decode cX12_leak 92 = .ok (.invokevirtual 306, 3) := by decide +kernel
theorem dX12_leak_95 : decode cX12_leak 95 = .ok (.ifCond .eq 14, 3) := by decide +kernel
theorem dX12_leak_98 : decode cX12_leak 98 = .ok (.iload_n 1, 1) := by decide +kernel
theorem dX12_leak_99 : decode cX12_leak 99 = .ok (.ifCond .ne 7, 3) := by decide +kernel
theorem dX12_leak_102 : decode cX12_leak 102 = .ok (.iload_n 3, 1) := by decide +kernel
theorem dX12_leak_103 : decode cX12_leak 103 = .ok (.goto 5, 3) := by decide +kernel
theorem dX12_leak_106 : decode cX12_leak 106 = .ok (.iload 4, 2) := by decide +kernel
theorem dX12_leak_108 : decode cX12_leak 108 = .ok (.istore_n 2, 1) := by decide +kernel
theorem dX12_leak_109 : decode cX12_leak 109 = .ok (.iinc 4 1, 3) := by decide +kernel
theorem dX12_leak_112 : decode cX12_leak 112 = .ok (.goto (-44), 3) := by decide +kernel
theorem dX12_leak_115 : decode cX12_leak 115 = .ok (.iinc 3 1, 3) := by decide +kernel
theorem dX12_leak_118 : decode cX12_leak 118 = .ok (.goto (-65), 3) := by decide +kernel
theorem dX12_leak_121 : decode cX12_leak 121 = .ok (.aload_n 0, 1) := by decide +kernel
theorem dX12_leak_122 : decode cX12_leak 122 = .ok (.invokevirtual 310, 3) := by decide +kernel
theorem dX12_leak_125 : decode cX12_leak 125 = .ok (.iload_n 2, 1) := by decide +kernel
theorem dX12_leak_126 : decode cX12_leak 126 = .ok (.ireturn, 1) := by decide +kernel
theorem dX12_traced_0 : decode cX12_traced 0 = .ok (.aload_n 0, 1) := by decide +kernel
theorem dX12_traced_1 : decode cX12_traced 1 = .ok (.bipush 31, 2) := by decide +kernel
theorem dX12_traced_3 : decode cX12_traced 3 = .ok (.aload_n 0, 1) := by decide +kernel
theorem dX12_traced_4 : decode cX12_traced 4 = .ok (.getfield 313, 3) := by decide +kernel
theorem dX12_traced_7 : decode cX12_traced 7 = .ok (.imul, 1) := by decide +kernel
theorem dX12_traced_8 : decode cX12_traced 8 = .ok (.iload_n 1, 1) := by decide +kernel
theorem dX12_traced_9 : decode cX12_traced 9 = .ok (.iadd, 1) := by decide +kernel
theorem dX12_traced_10 : decode cX12_traced 10 = .ok (.putfield 313, 3) := by decide +kernel
theorem dX12_traced_13 : decode cX12_traced 13 = .ok (.return_, 1) := by decide +kernel
set_option maxRecDepth 100000 in
theorem ggX12_tell_X12_noCylinder : GoodIn wsX12_tell wsX12_noCylinder := goodIn_s _ [9, 10, 11, 7, 18, 19, 20, 21, 22, 23, 24, 25, 26, 27, 28, 29, 30, 31, 32, 33, 34, 35, 36, 37, 38, 39, 40, 41, 42, 43, 44, 45, 46, 47, 48, 49, 50, 51, 52, 53, 54, 55, 56, 57, 58, 59, 60, 61, 62, 63, 64, 65, 66, 67, 68, 69, 70, 71, 72, 73, 74, 75, 76, 77, 78, 79, 80, 81, 82, 83] [8, 12] (by decide +kernel) rfl (by decide +kernel)
set_option maxRecDepth 20000 in
theorem gX12_tell_X12_noCylinder : GoodIn wsX12_tell (wsV RX12 189 RX12 yX12_noCylinder wsX12_noCylinder) := goodIn_app (goodIn_of _ (by decide +kernel)) ggX12_tell_X12_noCylinder
set_option maxRecDepth 100000 in
theorem ggX12_tell_X12_traced : GoodIn wsX12_tell wsX12_traced := goodIn_s _ [17, 18, 19, 20, 21, 22, 23, 24, 25, 26, 27, 28, 29, 30, 31, 32, 33, 34, 35, 36, 37, 38, 39, 40, 41, 42, 43, 44, 45, 46, 47, 48, 49, 50, 51, 52, 53, 54, 55, 56, 57, 58, 59, 60, 61, 62, 63, 64, 65, 66, 67, 68, 69, 70, 71, 72, 73, 74, 75, 76, 77, 78, 79, 80, 81, 82, 83] [16] (by decide +kernel) rfl (by decide +kernel)
set_option maxRecDepth 20000 in
theorem gX12_tell_X12_traced : GoodIn wsX12_tell (wsV RX12 316 RX12 yX12_traced wsX12_traced) := goodIn_app (goodIn_of _ (by decide +kernel)) ggX12_tell_X12_traced
theorem dX12_tell_0 : decode cX12_tell 0 = .ok (.aload_n 0, 1) := by decide +kernel
theorem dX12_tell_1 : decode cX12_tell 1 = .ok (.iload_n 1, 1) := by decide +kernel
theorem dX12_tell_2 : decode cX12_tell 2 = .ok (.invokevirtual 189, 3) := by decide +kernel
theorem dX12_tell_5 : decode cX12_tell 5 = .ok (.ifCond .eq 5, 3) := by decide +kernel
theorem dX12_tell_8 : decode cX12_tell 8 = .ok (.iconst (-1), 1) := by decide +kernel
theorem dX12_tell_9 : decode cX12_tell 9 = .ok (.ireturn, 1) := by decide +kernel
theorem dX12_tell_10 : decode cX12_tell 10 = .ok (.aload_n 0, 1) := by decide +kernel
theorem dX12_tell_11 : decode cX12_tell 11 = .ok (.getfield 22, 3) := by decide +kernel
theorem dX12_tell_14 : decode cX12_tell 14 = .ok (.iload_n 1, 1) := by decide +kernel
theorem dX12_tell_15 : decode cX12_tell 15 = .ok (.iaload, 1) := by decide +kernel
theorem dX12_tell_16 : decode cX12_tell 16 = .ok (.ifCond .le 15, 3) := by decide +kernel
theorem dX12_tell_19 : decode cX12_tell 19 = .ok (.aload_n 0, 1) := by decide +kernel
theorem dX12_tell_20 : decode cX12_tell 20 = .ok (.aload_n 0, 1) := by decide +kernel
theorem dX12_tell_21 : decode cX12_tell 21 = .ok (.getfield 22, 3) := by decide +kernel
theorem dX12_tell_24 : decode cX12_tell 24 = .ok (.iload_n 1, 1) := by decide +kernel
theorem dX12_tell_25 : decode cX12_tell 25 = .ok (.iaload, 1) := by decide +kernel
theorem dX12_tell_26 : decode cX12_tell 26 = .ok (.iconst 1, 1) := by decide +kernel
theorem dX12_tell_27 : decode cX12_tell 27 = .ok (.iadd, 1) := by decide +kernel
theorem dX12_tell_28 : decode cX12_tell 28 = .ok (.invokevirtual 316, 3) := by decide +kernel
theorem dX12_tell_31 : decode cX12_tell 31 = .ok (.aload_n 0, 1) := by decide +kernel
theorem dX12_tell_32 : decode cX12_tell 32 = .ok (.iconst 1, 1) := by decide +kernel
theorem dX12_tell_33 : decode cX12_tell 33 = .ok (.invokevirtual 316, 3) := by decide +kernel
theorem dX12_tell_36 : decode cX12_tell 36 = .ok (.aload_n 0, 1) := by decide +kernel
theorem dX12_tell_37 : decode cX12_tell 37 = .ok (.getfield 22, 3) := by decide +kernel
theorem dX12_tell_40 : decode cX12_tell 40 = .ok (.iload_n 1, 1) := by decide +kernel
theorem dX12_tell_41 : decode cX12_tell 41 = .ok (.iaload, 1) := by decide +kernel
theorem dX12_tell_42 : decode cX12_tell 42 = .ok (.ifCond .ne 12, 3) := by decide +kernel
theorem dX12_tell_45 : decode cX12_tell 45 = .ok (.aload_n 0, 1) := by decide +kernel
theorem dX12_tell_46 : decode cX12_tell 46 = .ok (.getfield 31, 3) := by decide +kernel
theorem dX12_tell_49 : decode cX12_tell 49 = .ok (.iload_n 1, 1) := by decide +kernel
theorem dX12_tell_50 : decode cX12_tell 50 = .ok (.iaload, 1) := by decide +kernel
theorem dX12_tell_51 : decode cX12_tell 51 = .ok (.goto 34, 3) := by decide +kernel
theorem dX12_tell_54 : decode cX12_tell 54 = .ok (.aload_n 0, 1) := by decide +kernel
theorem dX12_tell_55 : decode cX12_tell 55 = .ok (.getfield 22, 3) := by decide +kernel
theorem dX12_tell_58 : decode cX12_tell 58 = .ok (.iload_n 1, 1) := by decide +kernel
theorem dX12_tell_59 : decode cX12_tell 59 = .ok (.iaload, 1) := by decide +kernel
theorem dX12_tell_60 : decode cX12_tell 60 = .ok (.iconst 1, 1) := by decide +kernel
theorem dX12_tell_61 : decode cX12_tell 61 = .ok (.if_icmp .ne 16, 3) := by decide +kernel
theorem dX12_tell_64 : decode cX12_tell 64 = .ok (.aload_n 0, 1) := by decide +kernel
theorem dX12_tell_65 : decode cX12_tell 65 = .ok (.getfield 31, 3) := by decide +kernel
theorem dX12_tell_68 : decode cX12_tell 68 = .ok (.iload_n 1, 1) := by decide +kernel
theorem dX12_tell_69 : decode cX12_tell 69 = .ok (.iaload, 1) := by decide +kernel
theorem dX12_tell_70 : decode cX12_tell 70 = .ok (.ldc_w 320, 3) := by decide +kernel
theorem dX12_tell_73 : decode cX12_tell 73 = .ok (.iadd, 1) := by decide +kernel
theorem dX12_tell_74 : decode cX12_tell 74 = .ok (.goto 11, 3) := by decide +kernel
theorem dX12_tell_77 : decode cX12_tell 77 = .ok (.iconst 2, 1) := by decide +kernel
theorem dX12_tell_78 : decode cX12_tell 78 = .ok (.aload_n 0, 1) := by decide +kernel
theorem dX12_tell_79 : decode cX12_tell 79 = .ok (.getfield 31, 3) := by decide +kernel
theorem dX12_tell_82 : decode cX12_tell 82 = .ok (.iload_n 1, 1) := by decide +kernel
theorem dX12_tell_83 : decode cX12_tell 83 = .ok (.iaload, 1) := by decide +kernel
theorem dX12_tell_84 : decode cX12_tell 84 = .ok (.imul, 1) := by decide +kernel
theorem dX12_tell_85 : decode cX12_tell 85 = .ok (.ireturn, 1) := by decide +kernel
set_option maxRecDepth 100000 in
theorem ggX12_look_X12_noCylinder : GoodIn wsX12_look wsX12_noCylinder := goodIn_s _ [7, 8, 9, 5, 16, 17, 18, 19, 20, 21, 22, 23, 24, 25, 26, 27, 28, 29, 30, 31, 32, 33, 34, 35, 36, 37, 38, 39, 40, 41, 42, 43, 44, 45, 46, 47, 48, 49, 50, 51, 52, 53, 54, 55, 56, 57, 58, 59, 60, 61, 62, 63, 64, 65, 66, 67, 68, 69, 70, 71, 72, 73, 74, 75, 76, 77, 78, 79, 80, 81] [6, 10] (by decide +kernel) rfl (by decide +kernel)
set_option maxRecDepth 20000 in
theorem gX12_look_X12_noCylinder : GoodIn wsX12_look (wsV RX12 189 RX12 yX12_noCylinder wsX12_noCylinder) := goodIn_app (goodIn_of _ (by decide +kernel)) ggX12_look_X12_noCylinder
set_option maxRecDepth 100000 in
theorem ggX12_look_X12_traced : GoodIn wsX12_look wsX12_traced := goodIn_s _ [15, 16, 17, 18, 19, 20, 21, 22, 23, 24, 25, 26, 27, 28, 29, 30, 31, 32, 33, 34, 35, 36, 37, 38, 39, 40, 41, 42, 43, 44, 45, 46, 47, 48, 49, 50, 51, 52, 53, 54, 55, 56, 57, 58, 59, 60, 61, 62, 63, 64, 65, 66, 67, 68, 69, 70, 71, 72, 73, 74, 75, 76, 77, 78, 79, 80, 81] [14] (by decide +kernel) rfl (by decide +kernel)
set_option maxRecDepth 20000 in
theorem gX12_look_X12_traced : GoodIn wsX12_look (wsV RX12 316 RX12 yX12_traced wsX12_traced) := goodIn_app (goodIn_of _ (by decide +kernel)) ggX12_look_X12_traced
theorem dX12_look_0 : decode cX12_look 0 = .ok (.aload_n 0, 1) := by decide +kernel
theorem dX12_look_1 : decode cX12_look 1 = .ok (.iload_n 1, 1) := by decide +kernel
theorem dX12_look_2 : decode cX12_look 2 = .ok (.invokevirtual 189, 3) := by decide +kernel
theorem dX12_look_5 : decode cX12_look 5 = .ok (.ifCond .eq 5, 3) := by decide +kernel
theorem dX12_look_8 : decode cX12_look 8 = .ok (.iconst (-1), 1) := by decide +kernel
theorem dX12_look_9 : decode cX12_look 9 = .ok (.ireturn, 1) := by decide +kernel
theorem dX12_look_10 : decode cX12_look 10 = .ok (.aload_n 0, 1) := by decide +kernel
theorem dX12_look_11 : decode cX12_look 11 = .ok (.aload_n 0, 1) := by decide +kernel
theorem dX12_look_12 : decode cX12_look 12 = .ok (.getfield 22, 3) := by decide +kernel
theorem dX12_look_15 : decode cX12_look 15 = .ok (.iload_n 1, 1) := by decide +kernel
theorem dX12_look_16 : decode cX12_look 16 = .ok (.iaload, 1) := by decide +kernel
theorem dX12_look_17 : decode cX12_look 17 = .ok (.iconst 2, 1) := by decide +kernel
theorem dX12_look_18 : decode cX12_look 18 = .ok (.if_icmp .ne 7, 3) := by decide +kernel
theorem dX12_look_21 : decode cX12_look 21 = .ok (.iconst 5, 1) := by decide +kernel
theorem dX12_look_22 : decode cX12_look 22 = .ok (.goto 4, 3) := by decide +kernel
theorem dX12_look_25 : decode cX12_look 25 = .ok (.iconst 4, 1) := by decide +kernel
theorem dX12_look_26 : decode cX12_look 26 = .ok (.invokevirtual 316, 3) := by decide +kernel
theorem dX12_look_29 : decode cX12_look 29 = .ok (.aload_n 0, 1) := by decide +kernel
theorem dX12_look_30 : decode cX12_look 30 = .ok (.getfield 22, 3) := by decide +kernel
theorem dX12_look_33 : decode cX12_look 33 = .ok (.iload_n 1, 1) := by decide +kernel
theorem dX12_look_34 : decode cX12_look 34 = .ok (.iaload, 1) := by decide +kernel
theorem dX12_look_35 : decode cX12_look 35 = .ok (.iconst 2, 1) := by decide +kernel
theorem dX12_look_36 : decode cX12_look 36 = .ok (.if_icmp .ne 8, 3) := by decide +kernel
theorem dX12_look_39 : decode cX12_look 39 = .ok (.bipush 88, 2) := by decide +kernel
theorem dX12_look_41 : decode cX12_look 41 = .ok (.goto 4, 3) := by decide +kernel
theorem dX12_look_44 : decode cX12_look 44 = .ok (.iload_n 1, 1) := by decide +kernel
theorem dX12_look_45 : decode cX12_look 45 = .ok (.ireturn, 1) := by decide +kernel
set_option maxRecDepth 100000 in
theorem ggX12_as_X12_noCylinder : GoodIn wsX12_as wsX12_noCylinder := goodIn_s _ [8, 9, 10, 6, 21, 22, 23, 24, 25, 26, 27, 28, 29, 30, 31, 32, 33, 34, 35, 36, 37, 38, 39, 40, 41, 42, 43, 44, 45, 46, 47, 48, 49, 50, 51, 52, 53, 54, 55, 56, 57, 58, 59, 60, 61, 62, 63, 64, 65, 66, 67, 68, 69, 70, 71, 72, 73, 74, 75, 76, 77, 78, 79, 80, 81, 82, 83, 84, 85, 86] [7, 11] (by decide +kernel) rfl (by decide +kernel)
set_option maxRecDepth 20000 in
theorem gX12_as_X12_noCylinder : GoodIn wsX12_as (wsV RX12 189 RX12 yX12_noCylinder wsX12_noCylinder) := goodIn_app (goodIn_of _ (by decide +kernel)) ggX12_as_X12_noCylinder
set_option maxRecDepth 100000 in
theorem ggX12_as_X12_refused : GoodIn wsX12_as wsX12_refused := goodIn_s _ [16, 21, 22, 23, 24, 25, 26, 27, 28, 29, 30, 31, 32, 33, 34, 35, 36, 37, 38, 39, 40, 41, 42, 43, 44, 45, 46, 47, 48, 49, 50, 51, 52, 53, 54, 55, 56, 57, 58, 59, 60, 61, 62, 63, 64, 65, 66, 67, 68, 69, 70, 71, 72, 73, 74, 75, 76, 77, 78, 79, 80, 81, 82, 83, 84, 85, 86] [15] (by decide +kernel) rfl (by decide +kernel)
set_option maxRecDepth 20000 in
theorem gX12_as_X12_refused : GoodIn wsX12_as (wsV RX12 158 RX12 yX12_refused wsX12_refused) := goodIn_app (goodIn_of _ (by decide +kernel)) ggX12_as_X12_refused
set_option maxRecDepth 100000 in
theorem ggX12_as_X12_in : GoodIn wsX12_as wsX12_in := goodIn_s _ [] [11] (by decide +kernel) rfl (by decide +kernel)
set_option maxRecDepth 20000 in
theorem gX12_as_X12_in : GoodIn wsX12_as (va_wsS RX12 150 yX12_in wsX12_in) := goodIn_app (goodIn_of _ (by decide +kernel)) ggX12_as_X12_in
set_option maxRecDepth 100000 in
theorem ggX12_as_X12_failed : GoodIn wsX12_as wsX12_failed := goodIn_s _ [16, 21, 22, 23, 24, 25, 26, 27, 28, 29, 30, 31, 32, 33, 34, 35, 36, 37, 38, 39, 40, 41, 42, 43, 44, 45, 46, 47, 48, 49, 50, 51, 52, 53, 54, 55, 56, 57, 58, 59, 60, 61, 62, 63, 64, 65, 66, 67, 68, 69, 70, 71, 72, 73, 74, 75, 76, 77, 78, 79, 80, 81, 82, 83, 84, 85, 86] [20] (by decide +kernel) rfl (by decide +kernel)
set_option maxRecDepth 20000 in
theorem gX12_as_X12_failed : GoodIn wsX12_as (wsV RX12 164 RX12 yX12_failed wsX12_failed) := goodIn_app (goodIn_of _ (by decide +kernel)) ggX12_as_X12_failed
theorem dX12_as_0 : decode cX12_as 0 = .ok (.aload_n 0, 1) := by decide +kernel
theorem dX12_as_1 : decode cX12_as 1 = .ok (.iload_n 1, 1) := by decide +kernel
theorem dX12_as_2 : decode cX12_as 2 = .ok (.invokevirtual 189, 3) := by decide +kernel
theorem dX12_as_5 : decode cX12_as 5 = .ok (.ifCond .eq 9, 3) := by decide +kernel
theorem dX12_as_8 : decode cX12_as 8 = .ok (.aload_n 0, 1) := by decide +kernel
theorem dX12_as_9 : decode cX12_as 9 = .ok (.iconst (-1), 1) := by decide +kernel
theorem dX12_as_10 : decode cX12_as 10 = .ok (.invokevirtual 158, 3) := by decide +kernel
theorem dX12_as_13 : decode cX12_as 13 = .ok (.ireturn, 1) := by decide +kernel
theorem dX12_as_14 : decode cX12_as 14 = .ok (.iload_n 2, 1) := by decide +kernel
theorem dX12_as_15 : decode cX12_as 15 = .ok (.i2l, 1) := by decide +kernel
theorem dX12_as_16 : decode cX12_as 16 = .ok (.lconst 0, 1) := by decide +kernel
theorem dX12_as_17 : decode cX12_as 17 = .ok (.ldc2_w 162, 3) := by decide +kernel
theorem dX12_as_20 : decode cX12_as 20 = .ok (.invokestatic 150, 3) := by decide +kernel
theorem dX12_as_23 : decode cX12_as 23 = .ok (.ifCond .ne 10, 3) := by decide +kernel
theorem dX12_as_26 : decode cX12_as 26 = .ok (.aload_n 0, 1) := by decide +kernel
theorem dX12_as_27 : decode cX12_as 27 = .ok (.bipush (-2), 2) := by decide +kernel
theorem dX12_as_29 : decode cX12_as 29 = .ok (.invokevirtual 158, 3) := by decide +kernel
theorem dX12_as_32 : decode cX12_as 32 = .ok (.ireturn, 1) := by decide +kernel
theorem dX12_as_33 : decode cX12_as 33 = .ok (.aload_n 0, 1) := by decide +kernel
theorem dX12_as_34 : decode cX12_as 34 = .ok (.getfield 22, 3) := by decide +kernel
theorem dX12_as_37 : decode cX12_as 37 = .ok (.iload_n 1, 1) := by decide +kernel
theorem dX12_as_38 : decode cX12_as 38 = .ok (.iaload, 1) := by decide +kernel
theorem dX12_as_39 : decode cX12_as 39 = .ok (.iload_n 2, 1) := by decide +kernel
theorem dX12_as_40 : decode cX12_as 40 = .ok (.if_icmp .lt 11, 3) := by decide +kernel
theorem dX12_as_43 : decode cX12_as 43 = .ok (.aload_n 0, 1) := by decide +kernel
theorem dX12_as_44 : decode cX12_as 44 = .ok (.iconst 1, 1) := by decide +kernel
theorem dX12_as_45 : decode cX12_as 45 = .ok (.invokevirtual 158, 3) := by decide +kernel
theorem dX12_as_48 : decode cX12_as 48 = .ok (.goto 8, 3) := by decide +kernel
theorem dX12_as_51 : decode cX12_as 51 = .ok (.aload_n 0, 1) := by decide +kernel
theorem dX12_as_52 : decode cX12_as 52 = .ok (.iconst 2, 1) := by decide +kernel
theorem dX12_as_53 : decode cX12_as 53 = .ok (.invokevirtual 164, 3) := by decide +kernel
theorem dX12_as_56 : decode cX12_as 56 = .ok (.ireturn, 1) := by decide +kernel
theorem dX12_trace_0 : decode cX12_trace 0 = .ok (.aload_n 0, 1) := by decide +kernel
theorem dX12_trace_1 : decode cX12_trace 1 = .ok (.getfield 313, 3) := by decide +kernel
theorem dX12_trace_4 : decode cX12_trace 4 = .ok (.ireturn, 1) := by decide +kernel
theorem dX12_fault_0 : decode cX12_fault 0 = .ok (.aload_n 0, 1) := by decide +kernel
theorem dX12_fault_1 : decode cX12_fault 1 = .ok (.getfield 141, 3) := by decide +kernel
theorem dX12_fault_4 : decode cX12_fault 4 = .ok (.ireturn, 1) := by decide +kernel
set_option maxRecDepth 100000 in
theorem ggX12_told_X12_room : GoodIn wsX12_told wsX12_room := goodIn_s _ [11, 12, 13, 14, 15, 16, 17, 18, 19, 20, 21, 22, 23, 24, 25, 26, 27, 28, 29, 30, 31, 32, 33, 34, 35, 36, 37, 38, 39, 40, 41, 42, 43, 44, 45, 46, 47, 48, 49, 50, 51, 52, 53, 54, 55, 56, 57, 58, 59, 60, 61, 62, 63, 64, 65, 66, 67, 68, 69, 70, 71, 72, 73, 74, 75, 76, 77, 78] [10] (by decide +kernel) rfl (by decide +kernel)
set_option maxRecDepth 20000 in
theorem gX12_told_X12_room : GoodIn wsX12_told (wsV RX12 198 RX12 yX12_room wsX12_room) := goodIn_app (goodIn_of _ (by decide +kernel)) ggX12_told_X12_room
theorem dX12_told_0 : decode cX12_told 0 = .ok (.iconst 0, 1) := by decide +kernel
theorem dX12_told_1 : decode cX12_told 1 = .ok (.istore_n 2, 1) := by decide +kernel
theorem dX12_told_2 : decode cX12_told 2 = .ok (.iconst 0, 1) := by decide +kernel
theorem dX12_told_3 : decode cX12_told 3 = .ok (.istore_n 3, 1) := by decide +kernel
theorem dX12_told_4 : decode cX12_told 4 = .ok (.iload_n 3, 1) := by decide +kernel
theorem dX12_told_5 : decode cX12_told 5 = .ok (.aload_n 0, 1) := by decide +kernel
theorem dX12_told_6 : decode cX12_told 6 = .ok (.getfield 179, 3) := by decide +kernel
theorem dX12_told_9 : decode cX12_told 9 = .ok (.if_icmp .ge 50, 3) := by decide +kernel
theorem dX12_told_12 : decode cX12_told 12 = .ok (.iload_n 2, 1) := by decide +kernel
theorem dX12_told_13 : decode cX12_told 13 = .ok (.iload_n 1, 1) := by decide +kernel
theorem dX12_told_14 : decode cX12_told 14 = .ok (.iconst 4, 1) := by decide +kernel
theorem dX12_told_15 : decode cX12_told 15 = .ok (.if_icmp .ne 17, 3) := by decide +kernel
theorem dX12_told_18 : decode cX12_told 18 = .ok (.aload_n 0, 1) := by decide +kernel
theorem dX12_told_19 : decode cX12_told 19 = .ok (.getfield 31, 3) := by decide +kernel
theorem dX12_told_22 : decode cX12_told 22 = .ok (.iload_n 3, 1) := by decide +kernel
theorem dX12_told_23 : decode cX12_told 23 = .ok (.iaload, 1) := by decide +kernel
theorem dX12_told_24 : decode cX12_told 24 = .ok (.aload_n 0, 1) := by decide +kernel
theorem dX12_told_25 : decode cX12_told 25 = .ok (.iload_n 3, 1) := by decide +kernel
theorem dX12_told_26 : decode cX12_told 26 = .ok (.invokevirtual 198, 3) := by decide +kernel
theorem dX12_told_29 : decode cX12_told 29 = .ok (.if_icmp .eq 17, 3) := by decide +kernel
theorem dX12_told_32 : decode cX12_told 32 = .ok (.iload_n 1, 1) := by decide +kernel
theorem dX12_told_33 : decode cX12_told 33 = .ok (.iconst 5, 1) := by decide +kernel
theorem dX12_told_34 : decode cX12_told 34 = .ok (.if_icmp .ne 16, 3) := by decide +kernel
theorem dX12_told_37 : decode cX12_told 37 = .ok (.aload_n 0, 1) := by decide +kernel
theorem dX12_told_38 : decode cX12_told 38 = .ok (.getfield 31, 3) := by decide +kernel
theorem dX12_told_41 : decode cX12_told 41 = .ok (.iload_n 3, 1) := by decide +kernel
theorem dX12_told_42 : decode cX12_told 42 = .ok (.iaload, 1) := by decide +kernel
theorem dX12_told_43 : decode cX12_told 43 = .ok (.ifCond .ne 7, 3) := by decide +kernel
theorem dX12_told_46 : decode cX12_told 46 = .ok (.iconst 1, 1) := by decide +kernel
theorem dX12_told_47 : decode cX12_told 47 = .ok (.goto 4, 3) := by decide +kernel
theorem dX12_told_50 : decode cX12_told 50 = .ok (.iconst 0, 1) := by decide +kernel
theorem dX12_told_51 : decode cX12_told 51 = .ok (.iadd, 1) := by decide +kernel
theorem dX12_told_52 : decode cX12_told 52 = .ok (.istore_n 2, 1) := by decide +kernel
theorem dX12_told_53 : decode cX12_told 53 = .ok (.iinc 3 1, 3) := by decide +kernel
theorem dX12_told_56 : decode cX12_told 56 = .ok (.goto (-52), 3) := by decide +kernel
theorem dX12_told_59 : decode cX12_told 59 = .ok (.iload_n 1, 1) := by decide +kernel
theorem dX12_told_60 : decode cX12_told 60 = .ok (.tableswitch 62 0 5 #[40, 45, 50, 55, 60, 60], 40) := by decide +kernel
theorem dX12_told_100 : decode cX12_told 100 = .ok (.aload_n 0, 1) := by decide +kernel
theorem dX12_told_101 : decode cX12_told 101 = .ok (.getfield 179, 3) := by decide +kernel
theorem dX12_told_104 : decode cX12_told 104 = .ok (.ireturn, 1) := by decide +kernel
theorem dX12_told_105 : decode cX12_told 105 = .ok (.aload_n 0, 1) := by decide +kernel
theorem dX12_told_106 : decode cX12_told 106 = .ok (.getfield 221, 3) := by decide +kernel
theorem dX12_told_109 : decode cX12_told 109 = .ok (.ireturn, 1) := by decide +kernel
theorem dX12_told_110 : decode cX12_told 110 = .ok (.aload_n 0, 1) := by decide +kernel
theorem dX12_told_111 : decode cX12_told 111 = .ok (.getfield 291, 3) := by decide +kernel
theorem dX12_told_114 : decode cX12_told 114 = .ok (.ireturn, 1) := by decide +kernel
theorem dX12_told_115 : decode cX12_told 115 = .ok (.aload_n 0, 1) := by decide +kernel
theorem dX12_told_116 : decode cX12_told 116 = .ok (.getfield 136, 3) := by decide +kernel
theorem dX12_told_119 : decode cX12_told 119 = .ok (.ireturn, 1) := by decide +kernel
theorem dX12_told_120 : decode cX12_told 120 = .ok (.iload_n 2, 1) := by decide +kernel
theorem dX12_told_121 : decode cX12_told 121 = .ok (.ireturn, 1) := by decide +kernel
theorem dX12_told_122 : decode cX12_told 122 = .ok (.bipush (-2), 2) := by decide +kernel
theorem dX12_told_124 : decode cX12_told 124 = .ok (.ireturn, 1) := by decide +kernel
theorem dJ9_max_7cf53_0 : decode cJ9_max_7cf53 0 = .ok (.iload_n 0, 1) := by decide +kernel
theorem dJ9_max_7cf53_1 : decode cJ9_max_7cf53 1 = .ok (.iload_n 1, 1) := by decide +kernel
theorem dJ9_max_7cf53_2 : decode cJ9_max_7cf53 2 = .ok (.if_icmp .lt 7, 3) := by decide +kernel
theorem dJ9_max_7cf53_5 : decode cJ9_max_7cf53 5 = .ok (.iload_n 0, 1) := by decide +kernel
theorem dJ9_max_7cf53_6 : decode cJ9_max_7cf53 6 = .ok (.goto 4, 3) := by decide +kernel
theorem dJ9_max_7cf53_9 : decode cJ9_max_7cf53 9 = .ok (.iload_n 1, 1) := by decide +kernel
theorem dJ9_max_7cf53_10 : decode cJ9_max_7cf53 10 = .ok (.ireturn, 1) := by decide +kernel
theorem dJ9_min_7cf53_0 : decode cJ9_min_7cf53 0 = .ok (.iload_n 0, 1) := by decide +kernel
theorem dJ9_min_7cf53_1 : decode cJ9_min_7cf53 1 = .ok (.iload_n 1, 1) := by decide +kernel
theorem dJ9_min_7cf53_2 : decode cJ9_min_7cf53 2 = .ok (.if_icmp .gt 7, 3) := by decide +kernel
theorem dJ9_min_7cf53_5 : decode cJ9_min_7cf53 5 = .ok (.iload_n 0, 1) := by decide +kernel
theorem dJ9_min_7cf53_6 : decode cJ9_min_7cf53 6 = .ok (.goto 4, 3) := by decide +kernel
theorem dJ9_min_7cf53_9 : decode cJ9_min_7cf53 9 = .ok (.iload_n 1, 1) := by decide +kernel
theorem dJ9_min_7cf53_10 : decode cJ9_min_7cf53 10 = .ok (.ireturn, 1) := by decide +kernel
theorem dJ7_fill_53178_0 : decode cJ7_fill_53178 0 = .ok (.iconst 0, 1) := by decide +kernel
theorem dJ7_fill_53178_1 : decode cJ7_fill_53178 1 = .ok (.istore_n 2, 1) := by decide +kernel
theorem dJ7_fill_53178_2 : decode cJ7_fill_53178 2 = .ok (.aload_n 0, 1) := by decide +kernel
theorem dJ7_fill_53178_3 : decode cJ7_fill_53178 3 = .ok (.arraylength, 1) := by decide +kernel
theorem dJ7_fill_53178_4 : decode cJ7_fill_53178 4 = .ok (.istore_n 3, 1) := by decide +kernel
theorem dJ7_fill_53178_5 : decode cJ7_fill_53178 5 = .ok (.iload_n 2, 1) := by decide +kernel
theorem dJ7_fill_53178_6 : decode cJ7_fill_53178 6 = .ok (.iload_n 3, 1) := by decide +kernel
theorem dJ7_fill_53178_7 : decode cJ7_fill_53178 7 = .ok (.if_icmp .ge 13, 3) := by decide +kernel
theorem dJ7_fill_53178_10 : decode cJ7_fill_53178 10 = .ok (.aload_n 0, 1) := by decide +kernel
theorem dJ7_fill_53178_11 : decode cJ7_fill_53178 11 = .ok (.iload_n 2, 1) := by decide +kernel
theorem dJ7_fill_53178_12 : decode cJ7_fill_53178 12 = .ok (.iload_n 1, 1) := by decide +kernel
theorem dJ7_fill_53178_13 : decode cJ7_fill_53178 13 = .ok (.iastore, 1) := by decide +kernel
theorem dJ7_fill_53178_14 : decode cJ7_fill_53178 14 = .ok (.iinc 2 1, 3) := by decide +kernel
theorem dJ7_fill_53178_17 : decode cJ7_fill_53178 17 = .ok (.goto (-12), 3) := by decide +kernel
theorem dJ7_fill_53178_20 : decode cJ7_fill_53178 20 = .ok (.return_, 1) := by decide +kernel
abbrev vwCl : List vw_C := [(RX0, TX0, 7), (RX1, TX1, 13), (RX2, TX2, 7), (RX3, TX3, 5), (RX4, TX4, 5), (RX5, TX5, 4), (RX6, TX6, 4), (RX7, TX7, 5), (RX8, TX8, 4), (RX9, TX9, 1), (RX10, TX10, 7), (RX11, TX11, 15), (RX12, TX12, 66)]
