theorem edX12_putBack_181 : (decode cX12_putBack 181 = .ok (.putfield 269, 3)) ∧ (decode cX12_putBack 184 = .ok (.return_, 1)) := by decide +kernel
def dX12_putBack_181 := edX12_putBack_181.1
def dX12_putBack_184 := edX12_putBack_181.2
theorem edX12_tells_0 : (decode cX12_tells 0 = .ok (.iconst 1, 1)) ∧ (decode cX12_tells 1 = .ok (.istore_n 2, 1)) ∧ (decode cX12_tells 2 = .ok (.iconst 0, 1)) ∧ (decode cX12_tells 3 = .ok (.istore_n 3, 1)) ∧ (decode cX12_tells 4 = .ok (.iload_n 3, 1)) ∧ (decode cX12_tells 5 = .ok (.aload_n 0, 1)) ∧ (decode cX12_tells 6 = .ok (.getfield 291, 3)) ∧ (decode cX12_tells 9 = .ok (.if_icmp .ge 49, 3)) ∧ (decode cX12_tells 12 = .ok (.iload_n 2, 1)) ∧ (decode cX12_tells 13 = .ok (.ifCond .eq 37, 3)) ∧ (decode cX12_tells 16 = .ok (.aload_n 0, 1)) ∧ (decode cX12_tells 17 = .ok (.getfield 95, 3)) ∧ (decode cX12_tells 20 = .ok (.iload_n 3, 1)) ∧ (decode cX12_tells 21 = .ok (.iaload, 1)) ∧ (decode cX12_tells 22 = .ok (.iload_n 1, 1)) ∧ (decode cX12_tells 23 = .ok (.if_icmp .ne 23, 3)) := by decide +kernel
def dX12_tells_0 := edX12_tells_0.1
def dX12_tells_1 := edX12_tells_0.2.1
def dX12_tells_2 := edX12_tells_0.2.2.1
def dX12_tells_3 := edX12_tells_0.2.2.2.1
def dX12_tells_4 := edX12_tells_0.2.2.2.2.1
def dX12_tells_5 := edX12_tells_0.2.2.2.2.2.1
def dX12_tells_6 := edX12_tells_0.2.2.2.2.2.2.1
def dX12_tells_9 := edX12_tells_0.2.2.2.2.2.2.2.1
def dX12_tells_12 := edX12_tells_0.2.2.2.2.2.2.2.2.1
def dX12_tells_13 := edX12_tells_0.2.2.2.2.2.2.2.2.2.1
def dX12_tells_16 := edX12_tells_0.2.2.2.2.2.2.2.2.2.2.1
def dX12_tells_17 := edX12_tells_0.2.2.2.2.2.2.2.2.2.2.2.1
def dX12_tells_20 := edX12_tells_0.2.2.2.2.2.2.2.2.2.2.2.2.1
def dX12_tells_21 := edX12_tells_0.2.2.2.2.2.2.2.2.2.2.2.2.2.1
def dX12_tells_22 := edX12_tells_0.2.2.2.2.2.2.2.2.2.2.2.2.2.2.1
def dX12_tells_23 := edX12_tells_0.2.2.2.2.2.2.2.2.2.2.2.2.2.2.2
theorem edX12_tells_26 : (decode cX12_tells 26 = .ok (.aload_n 0, 1)) ∧ (decode cX12_tells 27 = .ok (.getfield 31, 3)) ∧ (decode cX12_tells 30 = .ok (.aload_n 0, 1)) ∧ (decode cX12_tells 31 = .ok (.getfield 98, 3)) ∧ (decode cX12_tells 34 = .ok (.iload_n 3, 1)) ∧ (decode cX12_tells 35 = .ok (.iaload, 1)) ∧ (decode cX12_tells 36 = .ok (.iaload, 1)) ∧ (decode cX12_tells 37 = .ok (.aload_n 0, 1)) ∧ (decode cX12_tells 38 = .ok (.getfield 101, 3)) ∧ (decode cX12_tells 41 = .ok (.iload_n 3, 1)) ∧ (decode cX12_tells 42 = .ok (.iaload, 1)) ∧ (decode cX12_tells 43 = .ok (.if_icmp .ne 7, 3)) ∧ (decode cX12_tells 46 = .ok (.iconst 1, 1)) ∧ (decode cX12_tells 47 = .ok (.goto 4, 3)) ∧ (decode cX12_tells 50 = .ok (.iconst 0, 1)) ∧ (decode cX12_tells 51 = .ok (.istore_n 2, 1)) := by decide +kernel
def dX12_tells_26 := edX12_tells_26.1
def dX12_tells_27 := edX12_tells_26.2.1
def dX12_tells_30 := edX12_tells_26.2.2.1
def dX12_tells_31 := edX12_tells_26.2.2.2.1
def dX12_tells_34 := edX12_tells_26.2.2.2.2.1
def dX12_tells_35 := edX12_tells_26.2.2.2.2.2.1
def dX12_tells_36 := edX12_tells_26.2.2.2.2.2.2.1
def dX12_tells_37 := edX12_tells_26.2.2.2.2.2.2.2.1
def dX12_tells_38 := edX12_tells_26.2.2.2.2.2.2.2.2.1
def dX12_tells_41 := edX12_tells_26.2.2.2.2.2.2.2.2.2.1
def dX12_tells_42 := edX12_tells_26.2.2.2.2.2.2.2.2.2.2.1
def dX12_tells_43 := edX12_tells_26.2.2.2.2.2.2.2.2.2.2.2.1
def dX12_tells_46 := edX12_tells_26.2.2.2.2.2.2.2.2.2.2.2.2.1
def dX12_tells_47 := edX12_tells_26.2.2.2.2.2.2.2.2.2.2.2.2.2.1
def dX12_tells_50 := edX12_tells_26.2.2.2.2.2.2.2.2.2.2.2.2.2.2.1
def dX12_tells_51 := edX12_tells_26.2.2.2.2.2.2.2.2.2.2.2.2.2.2.2
theorem edX12_tells_52 : (decode cX12_tells 52 = .ok (.iinc 3 1, 3)) ∧ (decode cX12_tells 55 = .ok (.goto (-51), 3)) ∧ (decode cX12_tells 58 = .ok (.iload_n 2, 1)) ∧ (decode cX12_tells 59 = .ok (.ireturn, 1)) := by decide +kernel
def dX12_tells_52 := edX12_tells_52.1
def dX12_tells_55 := edX12_tells_52.2.1
def dX12_tells_58 := edX12_tells_52.2.2.1
def dX12_tells_59 := edX12_tells_52.2.2.2
set_option maxRecDepth 100000 in
theorem ggX12_tellsAll_X12_tells : GoodIn wsX12_tellsAll wsX12_tells := goodIn_ca (b := wsX120) (goodIn_s _ [20, 21, 2, 22, 23] [19] (by decide +kernel) rfl (by decide +kernel)) (goodIn_sub (fun w h => List.mem_cons_of_mem _ (List.mem_append_right _ h)) gs_wsX120)
set_option maxRecDepth 20000 in
theorem gX12_tellsAll_X12_tells : GoodIn wsX12_tellsAll (wsV RX12 297 RX12 yX12_tells wsX12_tells) := goodIn_app (goodIn_of _ (by decide +kernel)) ggX12_tellsAll_X12_tells
set_option maxRecDepth 100000 in
theorem ggX12_tellsAll_X12_tickOnce : GoodIn wsX12_tellsAll wsX12_tickOnce := goodIn_ca (b := wsX120) (goodIn_s _ [13, 28, 5, 29, 30, 31, 32, 33, 34, 35, 36, 37, 2, 38, 39, 40, 41, 42, 11, 43, 44, 45, 46, 47, 48, 49, 50, 51, 18, 53, 54, 55, 56, 57, 59, 60, 61, 62, 63, 1, 7, 65, 66, 9, 67, 68, 69, 71, 72, 74, 75, 76, 78, 79, 80, 81, 82, 84, 85, 86, 88, 89, 90, 91, 93, 94] [27, 52, 58, 64, 70, 73, 77, 83, 87, 92] (by decide +kernel) rfl (by decide +kernel)) (goodIn_sub (fun w h => List.mem_cons_of_mem _ (List.mem_append_right _ h)) gs_wsX120)
set_option maxRecDepth 20000 in
theorem gX12_tellsAll_X12_tickOnce : GoodIn wsX12_tellsAll (wsV RX12 276 RX12 yX12_tickOnce wsX12_tickOnce) := goodIn_app (goodIn_of _ (by decide +kernel)) ggX12_tellsAll_X12_tickOnce
theorem edX12_tellsAll_0 : (decode cX12_tellsAll 0 = .ok (.iconst 0, 1)) ∧ (decode cX12_tellsAll 1 = .ok (.istore_n 3, 1)) ∧ (decode cX12_tellsAll 2 = .ok (.iload_n 3, 1)) ∧ (decode cX12_tellsAll 3 = .ok (.aload_n 0, 1)) ∧ (decode cX12_tellsAll 4 = .ok (.getfield 179, 3)) ∧ (decode cX12_tellsAll 7 = .ok (.if_icmp .ge 101, 3)) ∧ (decode cX12_tellsAll 10 = .ok (.aload_n 0, 1)) ∧ (decode cX12_tellsAll 11 = .ok (.getfield 31, 3)) ∧ (decode cX12_tellsAll 14 = .ok (.iload_n 3, 1)) ∧ (decode cX12_tellsAll 15 = .ok (.iload_n 3, 1)) ∧ (decode cX12_tellsAll 16 = .ok (.aload_n 0, 1)) ∧ (decode cX12_tellsAll 17 = .ok (.getfield 282, 3)) ∧ (decode cX12_tellsAll 20 = .ok (.if_icmp .ge 12, 3)) ∧ (decode cX12_tellsAll 23 = .ok (.aload_n 0, 1)) ∧ (decode cX12_tellsAll 24 = .ok (.getfield 86, 3)) ∧ (decode cX12_tellsAll 27 = .ok (.iload_n 3, 1)) := by decide +kernel
def dX12_tellsAll_0 := edX12_tellsAll_0.1
def dX12_tellsAll_1 := edX12_tellsAll_0.2.1
def dX12_tellsAll_2 := edX12_tellsAll_0.2.2.1
def dX12_tellsAll_3 := edX12_tellsAll_0.2.2.2.1
def dX12_tellsAll_4 := edX12_tellsAll_0.2.2.2.2.1
def dX12_tellsAll_7 := edX12_tellsAll_0.2.2.2.2.2.1
def dX12_tellsAll_10 := edX12_tellsAll_0.2.2.2.2.2.2.1
def dX12_tellsAll_11 := edX12_tellsAll_0.2.2.2.2.2.2.2.1
def dX12_tellsAll_14 := edX12_tellsAll_0.2.2.2.2.2.2.2.2.1
def dX12_tellsAll_15 := edX12_tellsAll_0.2.2.2.2.2.2.2.2.2.1
def dX12_tellsAll_16 := edX12_tellsAll_0.2.2.2.2.2.2.2.2.2.2.1
def dX12_tellsAll_17 := edX12_tellsAll_0.2.2.2.2.2.2.2.2.2.2.2.1
def dX12_tellsAll_20 := edX12_tellsAll_0.2.2.2.2.2.2.2.2.2.2.2.2.1
def dX12_tellsAll_23 := edX12_tellsAll_0.2.2.2.2.2.2.2.2.2.2.2.2.2.1
def dX12_tellsAll_24 := edX12_tellsAll_0.2.2.2.2.2.2.2.2.2.2.2.2.2.2.1
def dX12_tellsAll_27 := edX12_tellsAll_0.2.2.2.2.2.2.2.2.2.2.2.2.2.2.2
theorem edX12_tellsAll_28 : (decode cX12_tellsAll 28 = .ok (.iaload, 1)) ∧ (decode cX12_tellsAll 29 = .ok (.goto 4, 3)) ∧ (decode cX12_tellsAll 32 = .ok (.iconst 0, 1)) ∧ (decode cX12_tellsAll 33 = .ok (.iastore, 1)) ∧ (decode cX12_tellsAll 34 = .ok (.aload_n 0, 1)) ∧ (decode cX12_tellsAll 35 = .ok (.getfield 49, 3)) ∧ (decode cX12_tellsAll 38 = .ok (.iload_n 3, 1)) ∧ (decode cX12_tellsAll 39 = .ok (.iload_n 3, 1)) ∧ (decode cX12_tellsAll 40 = .ok (.aload_n 0, 1)) ∧ (decode cX12_tellsAll 41 = .ok (.getfield 282, 3)) ∧ (decode cX12_tellsAll 44 = .ok (.if_icmp .ge 12, 3)) ∧ (decode cX12_tellsAll 47 = .ok (.aload_n 0, 1)) ∧ (decode cX12_tellsAll 48 = .ok (.getfield 89, 3)) ∧ (decode cX12_tellsAll 51 = .ok (.iload_n 3, 1)) ∧ (decode cX12_tellsAll 52 = .ok (.iaload, 1)) ∧ (decode cX12_tellsAll 53 = .ok (.goto 4, 3)) := by decide +kernel
def dX12_tellsAll_28 := edX12_tellsAll_28.1
def dX12_tellsAll_29 := edX12_tellsAll_28.2.1
def dX12_tellsAll_32 := edX12_tellsAll_28.2.2.1
def dX12_tellsAll_33 := edX12_tellsAll_28.2.2.2.1
def dX12_tellsAll_34 := edX12_tellsAll_28.2.2.2.2.1
def dX12_tellsAll_35 := edX12_tellsAll_28.2.2.2.2.2.1
def dX12_tellsAll_38 := edX12_tellsAll_28.2.2.2.2.2.2.1
def dX12_tellsAll_39 := edX12_tellsAll_28.2.2.2.2.2.2.2.1
def dX12_tellsAll_40 := edX12_tellsAll_28.2.2.2.2.2.2.2.2.1
def dX12_tellsAll_41 := edX12_tellsAll_28.2.2.2.2.2.2.2.2.2.1
def dX12_tellsAll_44 := edX12_tellsAll_28.2.2.2.2.2.2.2.2.2.2.1
def dX12_tellsAll_47 := edX12_tellsAll_28.2.2.2.2.2.2.2.2.2.2.2.1
def dX12_tellsAll_48 := edX12_tellsAll_28.2.2.2.2.2.2.2.2.2.2.2.2.1
def dX12_tellsAll_51 := edX12_tellsAll_28.2.2.2.2.2.2.2.2.2.2.2.2.2.1
def dX12_tellsAll_52 := edX12_tellsAll_28.2.2.2.2.2.2.2.2.2.2.2.2.2.2.1
def dX12_tellsAll_53 := edX12_tellsAll_28.2.2.2.2.2.2.2.2.2.2.2.2.2.2.2
theorem edX12_tellsAll_56 : (decode cX12_tellsAll 56 = .ok (.iconst 0, 1)) ∧ (decode cX12_tellsAll 57 = .ok (.iastore, 1)) ∧ (decode cX12_tellsAll 58 = .ok (.aload_n 0, 1)) ∧ (decode cX12_tellsAll 59 = .ok (.getfield 52, 3)) ∧ (decode cX12_tellsAll 62 = .ok (.iload_n 3, 1)) ∧ (decode cX12_tellsAll 63 = .ok (.iload_n 3, 1)) ∧ (decode cX12_tellsAll 64 = .ok (.aload_n 0, 1)) ∧ (decode cX12_tellsAll 65 = .ok (.getfield 282, 3)) ∧ (decode cX12_tellsAll 68 = .ok (.if_icmp .ge 16, 3)) ∧ (decode cX12_tellsAll 71 = .ok (.aload_n 0, 1)) ∧ (decode cX12_tellsAll 72 = .ok (.getfield 92, 3)) ∧ (decode cX12_tellsAll 75 = .ok (.iload_n 3, 1)) ∧ (decode cX12_tellsAll 76 = .ok (.baload, 1)) ∧ (decode cX12_tellsAll 77 = .ok (.ifCond .eq 7, 3)) ∧ (decode cX12_tellsAll 80 = .ok (.iconst 1, 1)) ∧ (decode cX12_tellsAll 81 = .ok (.goto 4, 3)) := by decide +kernel
def dX12_tellsAll_56 := edX12_tellsAll_56.1
def dX12_tellsAll_57 := edX12_tellsAll_56.2.1
def dX12_tellsAll_58 := edX12_tellsAll_56.2.2.1
def dX12_tellsAll_59 := edX12_tellsAll_56.2.2.2.1
def dX12_tellsAll_62 := edX12_tellsAll_56.2.2.2.2.1
def dX12_tellsAll_63 := edX12_tellsAll_56.2.2.2.2.2.1
def dX12_tellsAll_64 := edX12_tellsAll_56.2.2.2.2.2.2.1
def dX12_tellsAll_65 := edX12_tellsAll_56.2.2.2.2.2.2.2.1
def dX12_tellsAll_68 := edX12_tellsAll_56.2.2.2.2.2.2.2.2.1
def dX12_tellsAll_71 := edX12_tellsAll_56.2.2.2.2.2.2.2.2.2.1
def dX12_tellsAll_72 := edX12_tellsAll_56.2.2.2.2.2.2.2.2.2.2.1
def dX12_tellsAll_75 := edX12_tellsAll_56.2.2.2.2.2.2.2.2.2.2.2.1
def dX12_tellsAll_76 := edX12_tellsAll_56.2.2.2.2.2.2.2.2.2.2.2.2.1
def dX12_tellsAll_77 := edX12_tellsAll_56.2.2.2.2.2.2.2.2.2.2.2.2.2.1
def dX12_tellsAll_80 := edX12_tellsAll_56.2.2.2.2.2.2.2.2.2.2.2.2.2.2.1
def dX12_tellsAll_81 := edX12_tellsAll_56.2.2.2.2.2.2.2.2.2.2.2.2.2.2.2
theorem edX12_tellsAll_84 : (decode cX12_tellsAll 84 = .ok (.iconst 0, 1)) ∧ (decode cX12_tellsAll 85 = .ok (.bastore, 1)) ∧ (decode cX12_tellsAll 86 = .ok (.aload_n 0, 1)) ∧ (decode cX12_tellsAll 87 = .ok (.getfield 46, 3)) ∧ (decode cX12_tellsAll 90 = .ok (.iload_n 3, 1)) ∧ (decode cX12_tellsAll 91 = .ok (.iload_n 3, 1)) ∧ (decode cX12_tellsAll 92 = .ok (.iload_n 1, 1)) ∧ (decode cX12_tellsAll 93 = .ok (.if_icmp .ne 7, 3)) ∧ (decode cX12_tellsAll 96 = .ok (.iload_n 2, 1)) ∧ (decode cX12_tellsAll 97 = .ok (.goto 4, 3)) ∧ (decode cX12_tellsAll 100 = .ok (.iconst 0, 1)) ∧ (decode cX12_tellsAll 101 = .ok (.iastore, 1)) ∧ (decode cX12_tellsAll 102 = .ok (.iinc 3 1, 3)) ∧ (decode cX12_tellsAll 105 = .ok (.goto (-103), 3)) ∧ (decode cX12_tellsAll 108 = .ok (.aload_n 0, 1)) ∧ (decode cX12_tellsAll 109 = .ok (.aload_n 0, 1)) := by decide +kernel
def dX12_tellsAll_84 := edX12_tellsAll_84.1
def dX12_tellsAll_85 := edX12_tellsAll_84.2.1
def dX12_tellsAll_86 := edX12_tellsAll_84.2.2.1
def dX12_tellsAll_87 := edX12_tellsAll_84.2.2.2.1
def dX12_tellsAll_90 := edX12_tellsAll_84.2.2.2.2.1
def dX12_tellsAll_91 := edX12_tellsAll_84.2.2.2.2.2.1
def dX12_tellsAll_92 := edX12_tellsAll_84.2.2.2.2.2.2.1
def dX12_tellsAll_93 := edX12_tellsAll_84.2.2.2.2.2.2.2.1
def dX12_tellsAll_96 := edX12_tellsAll_84.2.2.2.2.2.2.2.2.1
def dX12_tellsAll_97 := edX12_tellsAll_84.2.2.2.2.2.2.2.2.2.1
def dX12_tellsAll_100 := edX12_tellsAll_84.2.2.2.2.2.2.2.2.2.2.1
def dX12_tellsAll_101 := edX12_tellsAll_84.2.2.2.2.2.2.2.2.2.2.2.1
def dX12_tellsAll_102 := edX12_tellsAll_84.2.2.2.2.2.2.2.2.2.2.2.2.1
def dX12_tellsAll_105 := edX12_tellsAll_84.2.2.2.2.2.2.2.2.2.2.2.2.2.1
def dX12_tellsAll_108 := edX12_tellsAll_84.2.2.2.2.2.2.2.2.2.2.2.2.2.2.1
def dX12_tellsAll_109 := edX12_tellsAll_84.2.2.2.2.2.2.2.2.2.2.2.2.2.2.2
theorem edX12_tellsAll_110 : (decode cX12_tellsAll 110 = .ok (.getfield 285, 3)) ∧ (decode cX12_tellsAll 113 = .ok (.putfield 203, 3)) ∧ (decode cX12_tellsAll 116 = .ok (.aload_n 0, 1)) ∧ (decode cX12_tellsAll 117 = .ok (.aload_n 0, 1)) ∧ (decode cX12_tellsAll 118 = .ok (.getfield 288, 3)) ∧ (decode cX12_tellsAll 121 = .ok (.putfield 224, 3)) ∧ (decode cX12_tellsAll 124 = .ok (.aload_n 0, 1)) ∧ (decode cX12_tellsAll 125 = .ok (.iconst 0, 1)) ∧ (decode cX12_tellsAll 126 = .ok (.invokevirtual 297, 3)) ∧ (decode cX12_tellsAll 129 = .ok (.istore_n 3, 1)) ∧ (decode cX12_tellsAll 130 = .ok (.iconst 1, 1)) ∧ (decode cX12_tellsAll 131 = .ok (.istore 4, 2)) ∧ (decode cX12_tellsAll 133 = .ok (.iload 4, 2)) ∧ (decode cX12_tellsAll 135 = .ok (.aload_n 0, 1)) ∧ (decode cX12_tellsAll 136 = .ok (.getfield 136, 3)) ∧ (decode cX12_tellsAll 139 = .ok (.if_icmp .gt 24, 3)) := by decide +kernel
def dX12_tellsAll_110 := edX12_tellsAll_110.1
def dX12_tellsAll_113 := edX12_tellsAll_110.2.1
def dX12_tellsAll_116 := edX12_tellsAll_110.2.2.1
def dX12_tellsAll_117 := edX12_tellsAll_110.2.2.2.1
def dX12_tellsAll_118 := edX12_tellsAll_110.2.2.2.2.1
def dX12_tellsAll_121 := edX12_tellsAll_110.2.2.2.2.2.1
def dX12_tellsAll_124 := edX12_tellsAll_110.2.2.2.2.2.2.1
def dX12_tellsAll_125 := edX12_tellsAll_110.2.2.2.2.2.2.2.1
def dX12_tellsAll_126 := edX12_tellsAll_110.2.2.2.2.2.2.2.2.1
def dX12_tellsAll_129 := edX12_tellsAll_110.2.2.2.2.2.2.2.2.2.1
def dX12_tellsAll_130 := edX12_tellsAll_110.2.2.2.2.2.2.2.2.2.2.1
def dX12_tellsAll_131 := edX12_tellsAll_110.2.2.2.2.2.2.2.2.2.2.2.1
def dX12_tellsAll_133 := edX12_tellsAll_110.2.2.2.2.2.2.2.2.2.2.2.2.1
def dX12_tellsAll_135 := edX12_tellsAll_110.2.2.2.2.2.2.2.2.2.2.2.2.2.1
def dX12_tellsAll_136 := edX12_tellsAll_110.2.2.2.2.2.2.2.2.2.2.2.2.2.2.1
def dX12_tellsAll_139 := edX12_tellsAll_110.2.2.2.2.2.2.2.2.2.2.2.2.2.2.2
theorem edX12_tellsAll_142 : (decode cX12_tellsAll 142 = .ok (.iload_n 3, 1)) ∧ (decode cX12_tellsAll 143 = .ok (.ifCond .eq 20, 3)) ∧ (decode cX12_tellsAll 146 = .ok (.aload_n 0, 1)) ∧ (decode cX12_tellsAll 147 = .ok (.invokevirtual 276, 3)) ∧ (decode cX12_tellsAll 150 = .ok (.aload_n 0, 1)) ∧ (decode cX12_tellsAll 151 = .ok (.iload 4, 2)) ∧ (decode cX12_tellsAll 153 = .ok (.invokevirtual 297, 3)) ∧ (decode cX12_tellsAll 156 = .ok (.istore_n 3, 1)) ∧ (decode cX12_tellsAll 157 = .ok (.iinc 4 1, 3)) ∧ (decode cX12_tellsAll 160 = .ok (.goto (-27), 3)) ∧ (decode cX12_tellsAll 163 = .ok (.iload_n 3, 1)) ∧ (decode cX12_tellsAll 164 = .ok (.ireturn, 1)) := by decide +kernel
def dX12_tellsAll_142 := edX12_tellsAll_142.1
def dX12_tellsAll_143 := edX12_tellsAll_142.2.1
def dX12_tellsAll_146 := edX12_tellsAll_142.2.2.1
def dX12_tellsAll_147 := edX12_tellsAll_142.2.2.2.1
def dX12_tellsAll_150 := edX12_tellsAll_142.2.2.2.2.1
def dX12_tellsAll_151 := edX12_tellsAll_142.2.2.2.2.2.1
def dX12_tellsAll_153 := edX12_tellsAll_142.2.2.2.2.2.2.1
def dX12_tellsAll_156 := edX12_tellsAll_142.2.2.2.2.2.2.2.1
def dX12_tellsAll_157 := edX12_tellsAll_142.2.2.2.2.2.2.2.2.1
def dX12_tellsAll_160 := edX12_tellsAll_142.2.2.2.2.2.2.2.2.2.1
def dX12_tellsAll_163 := edX12_tellsAll_142.2.2.2.2.2.2.2.2.2.2.1
def dX12_tellsAll_164 := edX12_tellsAll_142.2.2.2.2.2.2.2.2.2.2.2
theorem edX12_lastReading_0 : (decode cX12_lastReading 0 = .ok (.iconst 0, 1)) ∧ (decode cX12_lastReading 1 = .ok (.istore_n 1, 1)) ∧ (decode cX12_lastReading 2 = .ok (.iconst 0, 1)) ∧ (decode cX12_lastReading 3 = .ok (.istore_n 2, 1)) ∧ (decode cX12_lastReading 4 = .ok (.iload_n 2, 1)) ∧ (decode cX12_lastReading 5 = .ok (.aload_n 0, 1)) ∧ (decode cX12_lastReading 6 = .ok (.getfield 291, 3)) ∧ (decode cX12_lastReading 9 = .ok (.if_icmp .ge 30, 3)) ∧ (decode cX12_lastReading 12 = .ok (.aload_n 0, 1)) ∧ (decode cX12_lastReading 13 = .ok (.getfield 95, 3)) ∧ (decode cX12_lastReading 16 = .ok (.iload_n 2, 1)) ∧ (decode cX12_lastReading 17 = .ok (.iaload, 1)) ∧ (decode cX12_lastReading 18 = .ok (.iload_n 1, 1)) ∧ (decode cX12_lastReading 19 = .ok (.if_icmp .le 12, 3)) ∧ (decode cX12_lastReading 22 = .ok (.aload_n 0, 1)) ∧ (decode cX12_lastReading 23 = .ok (.getfield 95, 3)) := by decide +kernel
def dX12_lastReading_0 := edX12_lastReading_0.1
def dX12_lastReading_1 := edX12_lastReading_0.2.1
def dX12_lastReading_2 := edX12_lastReading_0.2.2.1
def dX12_lastReading_3 := edX12_lastReading_0.2.2.2.1
def dX12_lastReading_4 := edX12_lastReading_0.2.2.2.2.1
def dX12_lastReading_5 := edX12_lastReading_0.2.2.2.2.2.1
def dX12_lastReading_6 := edX12_lastReading_0.2.2.2.2.2.2.1
def dX12_lastReading_9 := edX12_lastReading_0.2.2.2.2.2.2.2.1
def dX12_lastReading_12 := edX12_lastReading_0.2.2.2.2.2.2.2.2.1
def dX12_lastReading_13 := edX12_lastReading_0.2.2.2.2.2.2.2.2.2.1
def dX12_lastReading_16 := edX12_lastReading_0.2.2.2.2.2.2.2.2.2.2.1
def dX12_lastReading_17 := edX12_lastReading_0.2.2.2.2.2.2.2.2.2.2.2.1
def dX12_lastReading_18 := edX12_lastReading_0.2.2.2.2.2.2.2.2.2.2.2.2.1
def dX12_lastReading_19 := edX12_lastReading_0.2.2.2.2.2.2.2.2.2.2.2.2.2.1
def dX12_lastReading_22 := edX12_lastReading_0.2.2.2.2.2.2.2.2.2.2.2.2.2.2.1
def dX12_lastReading_23 := edX12_lastReading_0.2.2.2.2.2.2.2.2.2.2.2.2.2.2.2
theorem edX12_lastReading_26 : (decode cX12_lastReading 26 = .ok (.iload_n 2, 1)) ∧ (decode cX12_lastReading 27 = .ok (.iaload, 1)) ∧ (decode cX12_lastReading 28 = .ok (.goto 4, 3)) ∧ (decode cX12_lastReading 31 = .ok (.iload_n 1, 1)) ∧ (decode cX12_lastReading 32 = .ok (.istore_n 1, 1)) ∧ (decode cX12_lastReading 33 = .ok (.iinc 2 1, 3)) ∧ (decode cX12_lastReading 36 = .ok (.goto (-32), 3)) ∧ (decode cX12_lastReading 39 = .ok (.iload_n 1, 1)) ∧ (decode cX12_lastReading 40 = .ok (.ireturn, 1)) := by decide +kernel
def dX12_lastReading_26 := edX12_lastReading_26.1
def dX12_lastReading_27 := edX12_lastReading_26.2.1
def dX12_lastReading_28 := edX12_lastReading_26.2.2.1
def dX12_lastReading_31 := edX12_lastReading_26.2.2.2.1
def dX12_lastReading_32 := edX12_lastReading_26.2.2.2.2.1
def dX12_lastReading_33 := edX12_lastReading_26.2.2.2.2.2.1
def dX12_lastReading_36 := edX12_lastReading_26.2.2.2.2.2.2.1
def dX12_lastReading_39 := edX12_lastReading_26.2.2.2.2.2.2.2.1
def dX12_lastReading_40 := edX12_lastReading_26.2.2.2.2.2.2.2.2
set_option maxRecDepth 100000 in
theorem ggX12_leak_X12_in : GoodIn wsX12_leak wsX12_in := goodIn_s _ [] [8] (by decide +kernel) rfl (by decide +kernel)
set_option maxRecDepth 20000 in
theorem gX12_leak_X12_in : GoodIn wsX12_leak (va_wsS RX12 150 yX12_in wsX12_in) := goodIn_app (goodIn_of _ (by decide +kernel)) ggX12_leak_X12_in
set_option maxRecDepth 100000 in
theorem ggX12_leak_X12_lastReading : GoodIn wsX12_leak wsX12_lastReading := goodIn_ca (b := wsX120) (goodIn_s _ [13, 14] [12] (by decide +kernel) rfl (by decide +kernel)) (goodIn_sub (fun w h => List.mem_cons_of_mem _ (List.mem_append_right _ h)) gs_wsX120)
set_option maxRecDepth 20000 in
theorem gX12_leak_X12_lastReading : GoodIn wsX12_leak (wsV RX12 300 RX12 yX12_lastReading wsX12_lastReading) := goodIn_app (goodIn_of _ (by decide +kernel)) ggX12_leak_X12_lastReading
set_option maxRecDepth 100000 in
theorem ggX12_leak_X12_putAside : GoodIn wsX12_leak wsX12_putAside := goodIn_ca (b := wsX120) (goodIn_s _ [19, 20, 21, 22, 23, 24, 25, 26, 27, 28, 29, 30, 31, 32, 33, 34, 35, 36, 37, 38, 39, 40, 41, 42, 43] [18] (by decide +kernel) rfl (by decide +kernel)) (goodIn_sub (fun w h => List.mem_cons_of_mem _ (List.mem_append_right _ h)) gs_wsX120)
set_option maxRecDepth 20000 in
theorem gX12_leak_X12_putAside : GoodIn wsX12_leak (wsV RX12 303 RX12 yX12_putAside wsX12_putAside) := goodIn_app (goodIn_of _ (by decide +kernel)) ggX12_leak_X12_putAside
set_option maxRecDepth 100000 in
theorem ggX12_leak_X12_tellsAll : GoodIn wsX12_leak wsX12_tellsAll := goodIn_ca (b := wsX120) (goodIn_s _ [3, 20, 48, 49, 22, 50, 30, 51, 24, 52, 32, 53, 33, 2, 54, 55, 56, 7, 13, 14, 58, 59, 60, 61, 62, 64, 65, 66, 67, 34, 37, 68, 69, 70, 71, 26, 72, 28, 73, 74, 36, 35, 39, 40, 41, 42, 75, 76, 77, 79, 80, 81, 82, 83, 85, 86, 87, 88, 89, 4, 91, 92, 93, 94, 96, 97, 99, 100, 101, 103, 104, 105, 106, 107, 109, 110, 111, 113, 114, 115, 116, 118, 119] [47, 57, 63, 78, 84, 90, 95, 98, 102, 108, 112, 117] (by decide +kernel) rfl (by decide +kernel)) (goodIn_sub (fun w h => List.mem_cons_of_mem _ (List.mem_append_right _ h)) gs_wsX120)
set_option maxRecDepth 20000 in
theorem gX12_leak_X12_tellsAll : GoodIn wsX12_leak (wsV RX12 306 RX12 yX12_tellsAll wsX12_tellsAll) := goodIn_app (goodIn_of _ (by decide +kernel)) ggX12_leak_X12_tellsAll
set_option maxRecDepth 100000 in
theorem ggX12_leak_X12_putBack : GoodIn wsX12_leak wsX12_putBack := goodIn_ca (b := wsX120) (goodIn_s _ [20, 19, 22, 21, 24, 23, 26, 25, 28, 27, 30, 29, 31, 32, 33, 34, 35, 36, 37, 38, 39, 40, 41, 43, 42] [123] (by decide +kernel) rfl (by decide +kernel)) (goodIn_sub (fun w h => List.mem_cons_of_mem _ (List.mem_append_right _ h)) gs_wsX120)
set_option maxRecDepth 20000 in
theorem gX12_leak_X12_putBack : GoodIn wsX12_leak (wsV RX12 310 RX12 yX12_putBack wsX12_putBack) := goodIn_app (goodIn_of _ (by decide +kernel)) ggX12_leak_X12_putBack
theorem edX12_leak_0 : (decode cX12_leak 0 = .ok (.iload_n 1, 1)) ∧ (decode cX12_leak 1 = .ok (.i2l, 1)) ∧ (decode cX12_leak 2 = .ok (.lconst 0, 1)) ∧ (decode cX12_leak 3 = .ok (.lconst 1, 1)) ∧ (decode cX12_leak 4 = .ok (.invokestatic 150, 3)) ∧ (decode cX12_leak 7 = .ok (.ifCond .ne 6, 3)) ∧ (decode cX12_leak 10 = .ok (.bipush (-2), 2)) ∧ (decode cX12_leak 12 = .ok (.ireturn, 1)) ∧ (decode cX12_leak 13 = .ok (.aload_n 0, 1)) ∧ (decode cX12_leak 14 = .ok (.getfield 279, 3)) ∧ (decode cX12_leak 17 = .ok (.ifCond .eq 24, 3)) ∧ (decode cX12_leak 20 = .ok (.aload_n 0, 1)) ∧ (decode cX12_leak 21 = .ok (.getfield 136, 3)) ∧ (decode cX12_leak 24 = .ok (.sipush 200, 3)) ∧ (decode cX12_leak 27 = .ok (.if_icmp .gt 14, 3)) ∧ (decode cX12_leak 30 = .ok (.aload_n 0, 1)) := by decide +kernel
def dX12_leak_0 := edX12_leak_0.1
def dX12_leak_1 := edX12_leak_0.2.1
def dX12_leak_2 := edX12_leak_0.2.2.1
def dX12_leak_3 := edX12_leak_0.2.2.2.1
def dX12_leak_4 := edX12_leak_0.2.2.2.2.1
def dX12_leak_7 := edX12_leak_0.2.2.2.2.2.1
def dX12_leak_10 := edX12_leak_0.2.2.2.2.2.2.1
def dX12_leak_12 := edX12_leak_0.2.2.2.2.2.2.2.1
def dX12_leak_13 := edX12_leak_0.2.2.2.2.2.2.2.2.1
def dX12_leak_14 := edX12_leak_0.2.2.2.2.2.2.2.2.2.1
def dX12_leak_17 := edX12_leak_0.2.2.2.2.2.2.2.2.2.2.1
def dX12_leak_20 := edX12_leak_0.2.2.2.2.2.2.2.2.2.2.2.1
def dX12_leak_21 := edX12_leak_0.2.2.2.2.2.2.2.2.2.2.2.2.1
def dX12_leak_24 := edX12_leak_0.2.2.2.2.2.2.2.2.2.2.2.2.2.1
def dX12_leak_27 := edX12_leak_0.2.2.2.2.2.2.2.2.2.2.2.2.2.2.1
def dX12_leak_30 := edX12_leak_0.2.2.2.2.2.2.2.2.2.2.2.2.2.2.2
theorem edX12_leak_31 : (decode cX12_leak 31 = .ok (.invokevirtual 300, 3)) ∧ (decode cX12_leak 34 = .ok (.aload_n 0, 1)) ∧ (decode cX12_leak 35 = .ok (.getfield 136, 3)) ∧ (decode cX12_leak 38 = .ok (.if_icmp .le 6, 3)) ∧ (decode cX12_leak 41 = .ok (.bipush (-3), 2)) ∧ (decode cX12_leak 43 = .ok (.ireturn, 1)) ∧ (decode cX12_leak 44 = .ok (.aload_n 0, 1)) ∧ (decode cX12_leak 45 = .ok (.invokevirtual 303, 3)) ∧ (decode cX12_leak 48 = .ok (.bipush (-9), 2)) ∧ (decode cX12_leak 50 = .ok (.istore_n 2, 1)) ∧ (decode cX12_leak 51 = .ok (.iconst 0, 1)) ∧ (decode cX12_leak 52 = .ok (.istore_n 3, 1)) ∧ (decode cX12_leak 53 = .ok (.iload_n 3, 1)) ∧ (decode cX12_leak 54 = .ok (.aload_n 0, 1)) ∧ (decode cX12_leak 55 = .ok (.getfield 179, 3)) ∧ (decode cX12_leak 58 = .ok (.if_icmp .ge 63, 3)) := by decide +kernel
def dX12_leak_31 := edX12_leak_31.1
def dX12_leak_34 := edX12_leak_31.2.1
def dX12_leak_35 := edX12_leak_31.2.2.1
def dX12_leak_38 := edX12_leak_31.2.2.2.1
def dX12_leak_41 := edX12_leak_31.2.2.2.2.1
def dX12_leak_43 := edX12_leak_31.2.2.2.2.2.1
def dX12_leak_44 := edX12_leak_31.2.2.2.2.2.2.1
def dX12_leak_45 := edX12_leak_31.2.2.2.2.2.2.2.1
def dX12_leak_48 := edX12_leak_31.2.2.2.2.2.2.2.2.1
def dX12_leak_50 := edX12_leak_31.2.2.2.2.2.2.2.2.2.1
def dX12_leak_51 := edX12_leak_31.2.2.2.2.2.2.2.2.2.2.1
def dX12_leak_52 := edX12_leak_31.2.2.2.2.2.2.2.2.2.2.2.1
def dX12_leak_53 := edX12_leak_31.2.2.2.2.2.2.2.2.2.2.2.2.1
def dX12_leak_54 := edX12_leak_31.2.2.2.2.2.2.2.2.2.2.2.2.2.1
def dX12_leak_55 := edX12_leak_31.2.2.2.2.2.2.2.2.2.2.2.2.2.2.1
def dX12_leak_58 := edX12_leak_31.2.2.2.2.2.2.2.2.2.2.2.2.2.2.2
theorem edX12_leak_61 : (decode cX12_leak 61 = .ok (.iload_n 2, 1)) ∧ (decode cX12_leak 62 = .ok (.ifCond .ge 59, 3)) ∧ (decode cX12_leak 65 = .ok (.iconst 1, 1)) ∧ (decode cX12_leak 66 = .ok (.istore 4, 2)) ∧ (decode cX12_leak 68 = .ok (.iload 4, 2)) ∧ (decode cX12_leak 70 = .ok (.bipush 20, 2)) ∧ (decode cX12_leak 72 = .ok (.if_icmp .gt 43, 3)) ∧ (decode cX12_leak 75 = .ok (.iload_n 2, 1)) ∧ (decode cX12_leak 76 = .ok (.ifCond .ge 39, 3)) ∧ (decode cX12_leak 79 = .ok (.aload_n 0, 1)) ∧ (decode cX12_leak 80 = .ok (.getfield 22, 3)) ∧ (decode cX12_leak 83 = .ok (.iload_n 3, 1)) ∧ (decode cX12_leak 84 = .ok (.iaload, 1)) ∧ (decode cX12_leak 85 = .ok (.ifCond .ne 30, 3)) ∧ (decode cX12_leak 88 = .ok (.aload_n 0, 1)) ∧ (decode cX12_leak 89 = .ok (.iload_n 3, 1)) := by decide +kernel
def dX12_leak_61 := edX12_leak_61.1
def dX12_leak_62 := edX12_leak_61.2.1
def dX12_leak_65 := edX12_leak_61.2.2.1
def dX12_leak_66 := edX12_leak_61.2.2.2.1
def dX12_leak_68 := edX12_leak_61.2.2.2.2.1
def dX12_leak_70 := edX12_leak_61.2.2.2.2.2.1
def dX12_leak_72 := edX12_leak_61.2.2.2.2.2.2.1
def dX12_leak_75 := edX12_leak_61.2.2.2.2.2.2.2.1
def dX12_leak_76 := edX12_leak_61.2.2.2.2.2.2.2.2.1
def dX12_leak_79 := edX12_leak_61.2.2.2.2.2.2.2.2.2.1
def dX12_leak_80 := edX12_leak_61.2.2.2.2.2.2.2.2.2.2.1
def dX12_leak_83 := edX12_leak_61.2.2.2.2.2.2.2.2.2.2.2.1
def dX12_leak_84 := edX12_leak_61.2.2.2.2.2.2.2.2.2.2.2.2.1
def dX12_leak_85 := edX12_leak_61.2.2.2.2.2.2.2.2.2.2.2.2.2.1
def dX12_leak_88 := edX12_leak_61.2.2.2.2.2.2.2.2.2.2.2.2.2.2.1
def dX12_leak_89 := edX12_leak_61.2.2.2.2.2.2.2.2.2.2.2.2.2.2.2
theorem edX12_leak_90 : (decode cX12_leak 90 = .ok (.iload 4, 2)) ∧ (decode cX12_leak 92 = .ok (.invokevirtual 306, 3)) ∧ (decode cX12_leak 95 = .ok (.ifCond .eq 14, 3)) ∧ (decode cX12_leak 98 = .ok (.iload_n 1, 1)) ∧ (decode cX12_leak 99 = .ok (.ifCond .ne 7, 3)) ∧ (decode cX12_leak 102 = .ok (.iload_n 3, 1)) ∧ (decode cX12_leak 103 = .ok (.goto 5, 3)) ∧ (decode cX12_leak 106 = .ok (.iload 4, 2)) ∧ (decode cX12_leak 108 = .ok (.istore_n 2, 1)) ∧ (decode cX12_leak 109 = .ok (.iinc 4 1, 3)) ∧ (decode cX12_leak 112 = .ok (.goto (-44), 3)) ∧ (decode cX12_leak 115 = .ok (.iinc 3 1, 3)) ∧ (decode cX12_leak 118 = .ok (.goto (-65), 3)) ∧ (decode cX12_leak 121 = .ok (.aload_n 0, 1)) ∧ (decode cX12_leak 122 = .ok (.invokevirtual 310, 3)) ∧ (decode cX12_leak 125 = .ok (.iload_n 2, 1)) := by decide +kernel
def dX12_leak_90 := edX12_leak_90.1
def dX12_leak_92 := edX12_leak_90.2.1
def dX12_leak_95 := edX12_leak_90.2.2.1
def dX12_leak_98 := edX12_leak_90.2.2.2.1
def dX12_leak_99 := edX12_leak_90.2.2.2.2.1
def dX12_leak_102 := edX12_leak_90.2.2.2.2.2.1
def dX12_leak_103 := edX12_leak_90.2.2.2.2.2.2.1
def dX12_leak_106 := edX12_leak_90.2.2.2.2.2.2.2.1
def dX12_leak_108 := edX12_leak_90.2.2.2.2.2.2.2.2.1
def dX12_leak_109 := edX12_leak_90.2.2.2.2.2.2.2.2.2.1
def dX12_leak_112 := edX12_leak_90.2.2.2.2.2.2.2.2.2.2.1
def dX12_leak_115 := edX12_leak_90.2.2.2.2.2.2.2.2.2.2.2.1
def dX12_leak_118 := edX12_leak_90.2.2.2.2.2.2.2.2.2.2.2.2.1
def dX12_leak_121 := edX12_leak_90.2.2.2.2.2.2.2.2.2.2.2.2.2.1
def dX12_leak_122 := edX12_leak_90.2.2.2.2.2.2.2.2.2.2.2.2.2.2.1
def dX12_leak_125 := edX12_leak_90.2.2.2.2.2.2.2.2.2.2.2.2.2.2.2
theorem dX12_leak_126 : decode cX12_leak 126 = .ok (.ireturn, 1) := by decide +kernel
theorem edX12_traced_0 : (decode cX12_traced 0 = .ok (.aload_n 0, 1)) ∧ (decode cX12_traced 1 = .ok (.bipush 31, 2)) ∧ (decode cX12_traced 3 = .ok (.aload_n 0, 1)) ∧ (decode cX12_traced 4 = .ok (.getfield 313, 3)) ∧ (decode cX12_traced 7 = .ok (.imul, 1)) ∧ (decode cX12_traced 8 = .ok (.iload_n 1, 1)) ∧ (decode cX12_traced 9 = .ok (.iadd, 1)) ∧ (decode cX12_traced 10 = .ok (.putfield 313, 3)) ∧ (decode cX12_traced 13 = .ok (.return_, 1)) := by decide +kernel
def dX12_traced_0 := edX12_traced_0.1
def dX12_traced_1 := edX12_traced_0.2.1
def dX12_traced_3 := edX12_traced_0.2.2.1
def dX12_traced_4 := edX12_traced_0.2.2.2.1
def dX12_traced_7 := edX12_traced_0.2.2.2.2.1
def dX12_traced_8 := edX12_traced_0.2.2.2.2.2.1
def dX12_traced_9 := edX12_traced_0.2.2.2.2.2.2.1
def dX12_traced_10 := edX12_traced_0.2.2.2.2.2.2.2.1
def dX12_traced_13 := edX12_traced_0.2.2.2.2.2.2.2.2
set_option maxRecDepth 100000 in
theorem ggX12_tell_X12_noCylinder : GoodIn wsX12_tell wsX12_noCylinder := goodIn_ca (b := wsX120) (goodIn_s _ [9, 10, 11, 7] [8, 12] (by decide +kernel) rfl (by decide +kernel)) (goodIn_sub (fun w h => List.mem_cons_of_mem _ (List.mem_append_right _ h)) gs_wsX120)
set_option maxRecDepth 20000 in
theorem gX12_tell_X12_noCylinder : GoodIn wsX12_tell (wsV RX12 189 RX12 yX12_noCylinder wsX12_noCylinder) := goodIn_app (goodIn_of _ (by decide +kernel)) ggX12_tell_X12_noCylinder
set_option maxRecDepth 100000 in
theorem ggX12_tell_X12_traced : GoodIn wsX12_tell wsX12_traced := goodIn_ca (b := wsX120) (goodIn_s _ [17] [16] (by decide +kernel) rfl (by decide +kernel)) (goodIn_sub (fun w h => List.mem_cons_of_mem _ (List.mem_append_right _ h)) gs_wsX120)
set_option maxRecDepth 20000 in
theorem gX12_tell_X12_traced : GoodIn wsX12_tell (wsV RX12 316 RX12 yX12_traced wsX12_traced) := goodIn_app (goodIn_of _ (by decide +kernel)) ggX12_tell_X12_traced
theorem edX12_tell_0 : (decode cX12_tell 0 = .ok (.aload_n 0, 1)) ∧ (decode cX12_tell 1 = .ok (.iload_n 1, 1)) ∧ (decode cX12_tell 2 = .ok (.invokevirtual 189, 3)) ∧ (decode cX12_tell 5 = .ok (.ifCond .eq 5, 3)) ∧ (decode cX12_tell 8 = .ok (.iconst (-1), 1)) ∧ (decode cX12_tell 9 = .ok (.ireturn, 1)) ∧ (decode cX12_tell 10 = .ok (.aload_n 0, 1)) ∧ (decode cX12_tell 11 = .ok (.getfield 22, 3)) ∧ (decode cX12_tell 14 = .ok (.iload_n 1, 1)) ∧ (decode cX12_tell 15 = .ok (.iaload, 1)) ∧ (decode cX12_tell 16 = .ok (.ifCond .le 15, 3)) ∧ (decode cX12_tell 19 = .ok (.aload_n 0, 1)) ∧ (decode cX12_tell 20 = .ok (.aload_n 0, 1)) ∧ (decode cX12_tell 21 = .ok (.getfield 22, 3)) ∧ (decode cX12_tell 24 = .ok (.iload_n 1, 1)) ∧ (decode cX12_tell 25 = .ok (.iaload, 1)) := by decide +kernel
def dX12_tell_0 := edX12_tell_0.1
def dX12_tell_1 := edX12_tell_0.2.1
def dX12_tell_2 := edX12_tell_0.2.2.1
def dX12_tell_5 := edX12_tell_0.2.2.2.1
def dX12_tell_8 := edX12_tell_0.2.2.2.2.1
def dX12_tell_9 := edX12_tell_0.2.2.2.2.2.1
def dX12_tell_10 := edX12_tell_0.2.2.2.2.2.2.1
def dX12_tell_11 := edX12_tell_0.2.2.2.2.2.2.2.1
def dX12_tell_14 := edX12_tell_0.2.2.2.2.2.2.2.2.1
def dX12_tell_15 := edX12_tell_0.2.2.2.2.2.2.2.2.2.1
def dX12_tell_16 := edX12_tell_0.2.2.2.2.2.2.2.2.2.2.1
def dX12_tell_19 := edX12_tell_0.2.2.2.2.2.2.2.2.2.2.2.1
def dX12_tell_20 := edX12_tell_0.2.2.2.2.2.2.2.2.2.2.2.2.1
def dX12_tell_21 := edX12_tell_0.2.2.2.2.2.2.2.2.2.2.2.2.2.1
def dX12_tell_24 := edX12_tell_0.2.2.2.2.2.2.2.2.2.2.2.2.2.2.1
def dX12_tell_25 := edX12_tell_0.2.2.2.2.2.2.2.2.2.2.2.2.2.2.2
theorem edX12_tell_26 : (decode cX12_tell 26 = .ok (.iconst 1, 1)) ∧ (decode cX12_tell 27 = .ok (.iadd, 1)) ∧ (decode cX12_tell 28 = .ok (.invokevirtual 316, 3)) ∧ (decode cX12_tell 31 = .ok (.aload_n 0, 1)) ∧ (decode cX12_tell 32 = .ok (.iconst 1, 1)) ∧ (decode cX12_tell 33 = .ok (.invokevirtual 316, 3)) ∧ (decode cX12_tell 36 = .ok (.aload_n 0, 1)) ∧ (decode cX12_tell 37 = .ok (.getfield 22, 3)) ∧ (decode cX12_tell 40 = .ok (.iload_n 1, 1)) ∧ (decode cX12_tell 41 = .ok (.iaload, 1)) ∧ (decode cX12_tell 42 = .ok (.ifCond .ne 12, 3)) ∧ (decode cX12_tell 45 = .ok (.aload_n 0, 1)) ∧ (decode cX12_tell 46 = .ok (.getfield 31, 3)) ∧ (decode cX12_tell 49 = .ok (.iload_n 1, 1)) ∧ (decode cX12_tell 50 = .ok (.iaload, 1)) ∧ (decode cX12_tell 51 = .ok (.goto 34, 3)) := by decide +kernel
def dX12_tell_26 := edX12_tell_26.1
def dX12_tell_27 := edX12_tell_26.2.1
def dX12_tell_28 := edX12_tell_26.2.2.1
def dX12_tell_31 := edX12_tell_26.2.2.2.1
def dX12_tell_32 := edX12_tell_26.2.2.2.2.1
def dX12_tell_33 := edX12_tell_26.2.2.2.2.2.1
def dX12_tell_36 := edX12_tell_26.2.2.2.2.2.2.1
def dX12_tell_37 := edX12_tell_26.2.2.2.2.2.2.2.1
def dX12_tell_40 := edX12_tell_26.2.2.2.2.2.2.2.2.1
def dX12_tell_41 := edX12_tell_26.2.2.2.2.2.2.2.2.2.1
def dX12_tell_42 := edX12_tell_26.2.2.2.2.2.2.2.2.2.2.1
def dX12_tell_45 := edX12_tell_26.2.2.2.2.2.2.2.2.2.2.2.1
def dX12_tell_46 := edX12_tell_26.2.2.2.2.2.2.2.2.2.2.2.2.1
def dX12_tell_49 := edX12_tell_26.2.2.2.2.2.2.2.2.2.2.2.2.2.1
def dX12_tell_50 := edX12_tell_26.2.2.2.2.2.2.2.2.2.2.2.2.2.2.1
def dX12_tell_51 := edX12_tell_26.2.2.2.2.2.2.2.2.2.2.2.2.2.2.2
theorem edX12_tell_54 : (decode cX12_tell 54 = .ok (.aload_n 0, 1)) ∧ (decode cX12_tell 55 = .ok (.getfield 22, 3)) ∧ (decode cX12_tell 58 = .ok (.iload_n 1, 1)) ∧ (decode cX12_tell 59 = .ok (.iaload, 1)) ∧ (decode cX12_tell 60 = .ok (.iconst 1, 1)) ∧ (decode cX12_tell 61 = .ok (.if_icmp .ne 16, 3)) ∧ (decode cX12_tell 64 = .ok (.aload_n 0, 1)) ∧ (decode cX12_tell 65 = .ok (.getfield 31, 3)) ∧ (decode cX12_tell 68 = .ok (.iload_n 1, 1)) ∧ (decode cX12_tell 69 = .ok (.iaload, 1)) ∧ (decode cX12_tell 70 = .ok (.ldc_w 320, 3)) ∧ (decode cX12_tell 73 = .ok (.iadd, 1)) ∧ (decode cX12_tell 74 = .ok (.goto 11, 3)) ∧ (decode cX12_tell 77 = .ok (.iconst 2, 1)) ∧ (decode cX12_tell 78 = .ok (.aload_n 0, 1)) ∧ (decode cX12_tell 79 = .ok (.getfield 31, 3)) := by decide +kernel
def dX12_tell_54 := edX12_tell_54.1
def dX12_tell_55 := edX12_tell_54.2.1
def dX12_tell_58 := edX12_tell_54.2.2.1
def dX12_tell_59 := edX12_tell_54.2.2.2.1
def dX12_tell_60 := edX12_tell_54.2.2.2.2.1
def dX12_tell_61 := edX12_tell_54.2.2.2.2.2.1
def dX12_tell_64 := edX12_tell_54.2.2.2.2.2.2.1
def dX12_tell_65 := edX12_tell_54.2.2.2.2.2.2.2.1
def dX12_tell_68 := edX12_tell_54.2.2.2.2.2.2.2.2.1
def dX12_tell_69 := edX12_tell_54.2.2.2.2.2.2.2.2.2.1
def dX12_tell_70 := edX12_tell_54.2.2.2.2.2.2.2.2.2.2.1
def dX12_tell_73 := edX12_tell_54.2.2.2.2.2.2.2.2.2.2.2.1
def dX12_tell_74 := edX12_tell_54.2.2.2.2.2.2.2.2.2.2.2.2.1
def dX12_tell_77 := edX12_tell_54.2.2.2.2.2.2.2.2.2.2.2.2.2.1
def dX12_tell_78 := edX12_tell_54.2.2.2.2.2.2.2.2.2.2.2.2.2.2.1
def dX12_tell_79 := edX12_tell_54.2.2.2.2.2.2.2.2.2.2.2.2.2.2.2
theorem edX12_tell_82 : (decode cX12_tell 82 = .ok (.iload_n 1, 1)) ∧ (decode cX12_tell 83 = .ok (.iaload, 1)) ∧ (decode cX12_tell 84 = .ok (.imul, 1)) ∧ (decode cX12_tell 85 = .ok (.ireturn, 1)) := by decide +kernel
def dX12_tell_82 := edX12_tell_82.1
def dX12_tell_83 := edX12_tell_82.2.1
def dX12_tell_84 := edX12_tell_82.2.2.1
def dX12_tell_85 := edX12_tell_82.2.2.2
set_option maxRecDepth 100000 in
theorem ggX12_look_X12_noCylinder : GoodIn wsX12_look wsX12_noCylinder := goodIn_ca (b := wsX120) (goodIn_s _ [7, 8, 9, 5] [6, 10] (by decide +kernel) rfl (by decide +kernel)) (goodIn_sub (fun w h => List.mem_cons_of_mem _ (List.mem_append_right _ h)) gs_wsX120)
set_option maxRecDepth 20000 in
theorem gX12_look_X12_noCylinder : GoodIn wsX12_look (wsV RX12 189 RX12 yX12_noCylinder wsX12_noCylinder) := goodIn_app (goodIn_of _ (by decide +kernel)) ggX12_look_X12_noCylinder
set_option maxRecDepth 100000 in
theorem ggX12_look_X12_traced : GoodIn wsX12_look wsX12_traced := goodIn_ca (b := wsX120) (goodIn_s _ [15] [14] (by decide +kernel) rfl (by decide +kernel)) (goodIn_sub (fun w h => List.mem_cons_of_mem _ (List.mem_append_right _ h)) gs_wsX120)
set_option maxRecDepth 20000 in
theorem gX12_look_X12_traced : GoodIn wsX12_look (wsV RX12 316 RX12 yX12_traced wsX12_traced) := goodIn_app (goodIn_of _ (by decide +kernel)) ggX12_look_X12_traced
theorem edX12_look_0 : (decode cX12_look 0 = .ok (.aload_n 0, 1)) ∧ (decode cX12_look 1 = .ok (.iload_n 1, 1)) ∧ (decode cX12_look 2 = .ok (.invokevirtual 189, 3)) ∧ (decode cX12_look 5 = .ok (.ifCond .eq 5, 3)) ∧ (decode cX12_look 8 = .ok (.iconst (-1), 1)) ∧ (decode cX12_look 9 = .ok (.ireturn, 1)) ∧ (decode cX12_look 10 = .ok (.aload_n 0, 1)) ∧ (decode cX12_look 11 = .ok (.aload_n 0, 1)) ∧ (decode cX12_look 12 = .ok (.getfield 22, 3)) ∧ (decode cX12_look 15 = .ok (.iload_n 1, 1)) ∧ (decode cX12_look 16 = .ok (.iaload, 1)) ∧ (decode cX12_look 17 = .ok (.iconst 2, 1)) ∧ (decode cX12_look 18 = .ok (.if_icmp .ne 7, 3)) ∧ (decode cX12_look 21 = .ok (.iconst 5, 1)) ∧ (decode cX12_look 22 = .ok (.goto 4, 3)) ∧ (decode cX12_look 25 = .ok (.iconst 4, 1)) := by decide +kernel
def dX12_look_0 := edX12_look_0.1
def dX12_look_1 := edX12_look_0.2.1
def dX12_look_2 := edX12_look_0.2.2.1
def dX12_look_5 := edX12_look_0.2.2.2.1
def dX12_look_8 := edX12_look_0.2.2.2.2.1
def dX12_look_9 := edX12_look_0.2.2.2.2.2.1
def dX12_look_10 := edX12_look_0.2.2.2.2.2.2.1
def dX12_look_11 := edX12_look_0.2.2.2.2.2.2.2.1
def dX12_look_12 := edX12_look_0.2.2.2.2.2.2.2.2.1
def dX12_look_15 := edX12_look_0.2.2.2.2.2.2.2.2.2.1
def dX12_look_16 := edX12_look_0.2.2.2.2.2.2.2.2.2.2.1
def dX12_look_17 := edX12_look_0.2.2.2.2.2.2.2.2.2.2.2.1
def dX12_look_18 := edX12_look_0.2.2.2.2.2.2.2.2.2.2.2.2.1
def dX12_look_21 := edX12_look_0.2.2.2.2.2.2.2.2.2.2.2.2.2.1
def dX12_look_22 := edX12_look_0.2.2.2.2.2.2.2.2.2.2.2.2.2.2.1
def dX12_look_25 := edX12_look_0.2.2.2.2.2.2.2.2.2.2.2.2.2.2.2
theorem edX12_look_26 : (decode cX12_look 26 = .ok (.invokevirtual 316, 3)) ∧ (decode cX12_look 29 = .ok (.aload_n 0, 1)) ∧ (decode cX12_look 30 = .ok (.getfield 22, 3)) ∧ (decode cX12_look 33 = .ok (.iload_n 1, 1)) ∧ (decode cX12_look 34 = .ok (.iaload, 1)) ∧ (decode cX12_look 35 = .ok (.iconst 2, 1)) ∧ (decode cX12_look 36 = .ok (.if_icmp .ne 8, 3)) ∧ (decode cX12_look 39 = .ok (.bipush 88, 2)) ∧ (decode cX12_look 41 = .ok (.goto 4, 3)) ∧ (decode cX12_look 44 = .ok (.iload_n 1, 1)) ∧ (decode cX12_look 45 = .ok (.ireturn, 1)) := by decide +kernel
def dX12_look_26 := edX12_look_26.1
def dX12_look_29 := edX12_look_26.2.1
def dX12_look_30 := edX12_look_26.2.2.1
def dX12_look_33 := edX12_look_26.2.2.2.1
def dX12_look_34 := edX12_look_26.2.2.2.2.1
def dX12_look_35 := edX12_look_26.2.2.2.2.2.1
def dX12_look_36 := edX12_look_26.2.2.2.2.2.2.1
def dX12_look_39 := edX12_look_26.2.2.2.2.2.2.2.1
def dX12_look_41 := edX12_look_26.2.2.2.2.2.2.2.2.1
def dX12_look_44 := edX12_look_26.2.2.2.2.2.2.2.2.2.1
def dX12_look_45 := edX12_look_26.2.2.2.2.2.2.2.2.2.2
set_option maxRecDepth 100000 in
theorem ggX12_as_X12_noCylinder : GoodIn wsX12_as wsX12_noCylinder := goodIn_ca (b := wsX120) (goodIn_s _ [8, 9, 10, 6] [7, 11] (by decide +kernel) rfl (by decide +kernel)) (goodIn_sub (fun w h => List.mem_cons_of_mem _ (List.mem_append_right _ h)) gs_wsX120)
set_option maxRecDepth 20000 in
theorem gX12_as_X12_noCylinder : GoodIn wsX12_as (wsV RX12 189 RX12 yX12_noCylinder wsX12_noCylinder) := goodIn_app (goodIn_of _ (by decide +kernel)) ggX12_as_X12_noCylinder
set_option maxRecDepth 100000 in
theorem ggX12_as_X12_refused : GoodIn wsX12_as wsX12_refused := goodIn_ca (b := wsX120) (goodIn_s _ [16] [15] (by decide +kernel) rfl (by decide +kernel)) (goodIn_sub (fun w h => List.mem_cons_of_mem _ (List.mem_append_right _ h)) gs_wsX120)
set_option maxRecDepth 20000 in
theorem gX12_as_X12_refused : GoodIn wsX12_as (wsV RX12 158 RX12 yX12_refused wsX12_refused) := goodIn_app (goodIn_of _ (by decide +kernel)) ggX12_as_X12_refused
set_option maxRecDepth 100000 in
theorem ggX12_as_X12_in : GoodIn wsX12_as wsX12_in := goodIn_s _ [] [11] (by decide +kernel) rfl (by decide +kernel)
set_option maxRecDepth 20000 in
theorem gX12_as_X12_in : GoodIn wsX12_as (va_wsS RX12 150 yX12_in wsX12_in) := goodIn_app (goodIn_of _ (by decide +kernel)) ggX12_as_X12_in
set_option maxRecDepth 100000 in
theorem ggX12_as_X12_failed : GoodIn wsX12_as wsX12_failed := goodIn_ca (b := wsX120) (goodIn_s _ [16] [20] (by decide +kernel) rfl (by decide +kernel)) (goodIn_sub (fun w h => List.mem_cons_of_mem _ (List.mem_append_right _ h)) gs_wsX120)
set_option maxRecDepth 20000 in
theorem gX12_as_X12_failed : GoodIn wsX12_as (wsV RX12 164 RX12 yX12_failed wsX12_failed) := goodIn_app (goodIn_of _ (by decide +kernel)) ggX12_as_X12_failed
theorem edX12_as_0 : (decode cX12_as 0 = .ok (.aload_n 0, 1)) ∧ (decode cX12_as 1 = .ok (.iload_n 1, 1)) ∧ (decode cX12_as 2 = .ok (.invokevirtual 189, 3)) ∧ (decode cX12_as 5 = .ok (.ifCond .eq 9, 3)) ∧ (decode cX12_as 8 = .ok (.aload_n 0, 1)) ∧ (decode cX12_as 9 = .ok (.iconst (-1), 1)) ∧ (decode cX12_as 10 = .ok (.invokevirtual 158, 3)) ∧ (decode cX12_as 13 = .ok (.ireturn, 1)) ∧ (decode cX12_as 14 = .ok (.iload_n 2, 1)) ∧ (decode cX12_as 15 = .ok (.i2l, 1)) ∧ (decode cX12_as 16 = .ok (.lconst 0, 1)) ∧ (decode cX12_as 17 = .ok (.ldc2_w 162, 3)) ∧ (decode cX12_as 20 = .ok (.invokestatic 150, 3)) ∧ (decode cX12_as 23 = .ok (.ifCond .ne 10, 3)) ∧ (decode cX12_as 26 = .ok (.aload_n 0, 1)) ∧ (decode cX12_as 27 = .ok (.bipush (-2), 2)) := by decide +kernel
def dX12_as_0 := edX12_as_0.1
def dX12_as_1 := edX12_as_0.2.1
def dX12_as_2 := edX12_as_0.2.2.1
def dX12_as_5 := edX12_as_0.2.2.2.1
def dX12_as_8 := edX12_as_0.2.2.2.2.1
def dX12_as_9 := edX12_as_0.2.2.2.2.2.1
def dX12_as_10 := edX12_as_0.2.2.2.2.2.2.1
def dX12_as_13 := edX12_as_0.2.2.2.2.2.2.2.1
def dX12_as_14 := edX12_as_0.2.2.2.2.2.2.2.2.1
def dX12_as_15 := edX12_as_0.2.2.2.2.2.2.2.2.2.1
def dX12_as_16 := edX12_as_0.2.2.2.2.2.2.2.2.2.2.1
def dX12_as_17 := edX12_as_0.2.2.2.2.2.2.2.2.2.2.2.1
def dX12_as_20 := edX12_as_0.2.2.2.2.2.2.2.2.2.2.2.2.1
def dX12_as_23 := edX12_as_0.2.2.2.2.2.2.2.2.2.2.2.2.2.1
def dX12_as_26 := edX12_as_0.2.2.2.2.2.2.2.2.2.2.2.2.2.2.1
def dX12_as_27 := edX12_as_0.2.2.2.2.2.2.2.2.2.2.2.2.2.2.2
theorem edX12_as_29 : (decode cX12_as 29 = .ok (.invokevirtual 158, 3)) ∧ (decode cX12_as 32 = .ok (.ireturn, 1)) ∧ (decode cX12_as 33 = .ok (.aload_n 0, 1)) ∧ (decode cX12_as 34 = .ok (.getfield 22, 3)) ∧ (decode cX12_as 37 = .ok (.iload_n 1, 1)) ∧ (decode cX12_as 38 = .ok (.iaload, 1)) ∧ (decode cX12_as 39 = .ok (.iload_n 2, 1)) ∧ (decode cX12_as 40 = .ok (.if_icmp .lt 11, 3)) ∧ (decode cX12_as 43 = .ok (.aload_n 0, 1)) ∧ (decode cX12_as 44 = .ok (.iconst 1, 1)) ∧ (decode cX12_as 45 = .ok (.invokevirtual 158, 3)) ∧ (decode cX12_as 48 = .ok (.goto 8, 3)) ∧ (decode cX12_as 51 = .ok (.aload_n 0, 1)) ∧ (decode cX12_as 52 = .ok (.iconst 2, 1)) ∧ (decode cX12_as 53 = .ok (.invokevirtual 164, 3)) ∧ (decode cX12_as 56 = .ok (.ireturn, 1)) := by decide +kernel
def dX12_as_29 := edX12_as_29.1
def dX12_as_32 := edX12_as_29.2.1
def dX12_as_33 := edX12_as_29.2.2.1
def dX12_as_34 := edX12_as_29.2.2.2.1
def dX12_as_37 := edX12_as_29.2.2.2.2.1
def dX12_as_38 := edX12_as_29.2.2.2.2.2.1
def dX12_as_39 := edX12_as_29.2.2.2.2.2.2.1
def dX12_as_40 := edX12_as_29.2.2.2.2.2.2.2.1
def dX12_as_43 := edX12_as_29.2.2.2.2.2.2.2.2.1
def dX12_as_44 := edX12_as_29.2.2.2.2.2.2.2.2.2.1
def dX12_as_45 := edX12_as_29.2.2.2.2.2.2.2.2.2.2.1
def dX12_as_48 := edX12_as_29.2.2.2.2.2.2.2.2.2.2.2.1
def dX12_as_51 := edX12_as_29.2.2.2.2.2.2.2.2.2.2.2.2.1
def dX12_as_52 := edX12_as_29.2.2.2.2.2.2.2.2.2.2.2.2.2.1
def dX12_as_53 := edX12_as_29.2.2.2.2.2.2.2.2.2.2.2.2.2.2.1
def dX12_as_56 := edX12_as_29.2.2.2.2.2.2.2.2.2.2.2.2.2.2.2
theorem edX12_trace_0 : (decode cX12_trace 0 = .ok (.aload_n 0, 1)) ∧ (decode cX12_trace 1 = .ok (.getfield 313, 3)) ∧ (decode cX12_trace 4 = .ok (.ireturn, 1)) := by decide +kernel
def dX12_trace_0 := edX12_trace_0.1
def dX12_trace_1 := edX12_trace_0.2.1
def dX12_trace_4 := edX12_trace_0.2.2
theorem edX12_fault_0 : (decode cX12_fault 0 = .ok (.aload_n 0, 1)) ∧ (decode cX12_fault 1 = .ok (.getfield 141, 3)) ∧ (decode cX12_fault 4 = .ok (.ireturn, 1)) := by decide +kernel
def dX12_fault_0 := edX12_fault_0.1
def dX12_fault_1 := edX12_fault_0.2.1
def dX12_fault_4 := edX12_fault_0.2.2
set_option maxRecDepth 100000 in
theorem ggX12_told_X12_room : GoodIn wsX12_told wsX12_room := goodIn_ca (b := wsX120) (goodIn_s _ [11, 12] [10] (by decide +kernel) rfl (by decide +kernel)) (goodIn_sub (fun w h => List.mem_cons_of_mem _ (List.mem_append_right _ h)) gs_wsX120)
set_option maxRecDepth 20000 in
theorem gX12_told_X12_room : GoodIn wsX12_told (wsV RX12 198 RX12 yX12_room wsX12_room) := goodIn_app (goodIn_of _ (by decide +kernel)) ggX12_told_X12_room
theorem edX12_told_0 : (decode cX12_told 0 = .ok (.iconst 0, 1)) ∧ (decode cX12_told 1 = .ok (.istore_n 2, 1)) ∧ (decode cX12_told 2 = .ok (.iconst 0, 1)) ∧ (decode cX12_told 3 = .ok (.istore_n 3, 1)) ∧ (decode cX12_told 4 = .ok (.iload_n 3, 1)) ∧ (decode cX12_told 5 = .ok (.aload_n 0, 1)) ∧ (decode cX12_told 6 = .ok (.getfield 179, 3)) ∧ (decode cX12_told 9 = .ok (.if_icmp .ge 50, 3)) ∧ (decode cX12_told 12 = .ok (.iload_n 2, 1)) ∧ (decode cX12_told 13 = .ok (.iload_n 1, 1)) ∧ (decode cX12_told 14 = .ok (.iconst 4, 1)) ∧ (decode cX12_told 15 = .ok (.if_icmp .ne 17, 3)) ∧ (decode cX12_told 18 = .ok (.aload_n 0, 1)) ∧ (decode cX12_told 19 = .ok (.getfield 31, 3)) ∧ (decode cX12_told 22 = .ok (.iload_n 3, 1)) ∧ (decode cX12_told 23 = .ok (.iaload, 1)) := by decide +kernel
def dX12_told_0 := edX12_told_0.1
def dX12_told_1 := edX12_told_0.2.1
def dX12_told_2 := edX12_told_0.2.2.1
def dX12_told_3 := edX12_told_0.2.2.2.1
def dX12_told_4 := edX12_told_0.2.2.2.2.1
def dX12_told_5 := edX12_told_0.2.2.2.2.2.1
def dX12_told_6 := edX12_told_0.2.2.2.2.2.2.1
def dX12_told_9 := edX12_told_0.2.2.2.2.2.2.2.1
def dX12_told_12 := edX12_told_0.2.2.2.2.2.2.2.2.1
def dX12_told_13 := edX12_told_0.2.2.2.2.2.2.2.2.2.1
def dX12_told_14 := edX12_told_0.2.2.2.2.2.2.2.2.2.2.1
def dX12_told_15 := edX12_told_0.2.2.2.2.2.2.2.2.2.2.2.1
def dX12_told_18 := edX12_told_0.2.2.2.2.2.2.2.2.2.2.2.2.1
def dX12_told_19 := edX12_told_0.2.2.2.2.2.2.2.2.2.2.2.2.2.1
def dX12_told_22 := edX12_told_0.2.2.2.2.2.2.2.2.2.2.2.2.2.2.1
def dX12_told_23 := edX12_told_0.2.2.2.2.2.2.2.2.2.2.2.2.2.2.2
theorem edX12_told_24 : (decode cX12_told 24 = .ok (.aload_n 0, 1)) ∧ (decode cX12_told 25 = .ok (.iload_n 3, 1)) ∧ (decode cX12_told 26 = .ok (.invokevirtual 198, 3)) ∧ (decode cX12_told 29 = .ok (.if_icmp .eq 17, 3)) ∧ (decode cX12_told 32 = .ok (.iload_n 1, 1)) ∧ (decode cX12_told 33 = .ok (.iconst 5, 1)) ∧ (decode cX12_told 34 = .ok (.if_icmp .ne 16, 3)) ∧ (decode cX12_told 37 = .ok (.aload_n 0, 1)) ∧ (decode cX12_told 38 = .ok (.getfield 31, 3)) ∧ (decode cX12_told 41 = .ok (.iload_n 3, 1)) ∧ (decode cX12_told 42 = .ok (.iaload, 1)) ∧ (decode cX12_told 43 = .ok (.ifCond .ne 7, 3)) ∧ (decode cX12_told 46 = .ok (.iconst 1, 1)) ∧ (decode cX12_told 47 = .ok (.goto 4, 3)) ∧ (decode cX12_told 50 = .ok (.iconst 0, 1)) ∧ (decode cX12_told 51 = .ok (.iadd, 1)) := by decide +kernel
def dX12_told_24 := edX12_told_24.1
def dX12_told_25 := edX12_told_24.2.1
def dX12_told_26 := edX12_told_24.2.2.1
def dX12_told_29 := edX12_told_24.2.2.2.1
def dX12_told_32 := edX12_told_24.2.2.2.2.1
def dX12_told_33 := edX12_told_24.2.2.2.2.2.1
def dX12_told_34 := edX12_told_24.2.2.2.2.2.2.1
def dX12_told_37 := edX12_told_24.2.2.2.2.2.2.2.1
def dX12_told_38 := edX12_told_24.2.2.2.2.2.2.2.2.1
def dX12_told_41 := edX12_told_24.2.2.2.2.2.2.2.2.2.1
def dX12_told_42 := edX12_told_24.2.2.2.2.2.2.2.2.2.2.1
def dX12_told_43 := edX12_told_24.2.2.2.2.2.2.2.2.2.2.2.1
def dX12_told_46 := edX12_told_24.2.2.2.2.2.2.2.2.2.2.2.2.1
def dX12_told_47 := edX12_told_24.2.2.2.2.2.2.2.2.2.2.2.2.2.1
def dX12_told_50 := edX12_told_24.2.2.2.2.2.2.2.2.2.2.2.2.2.2.1
def dX12_told_51 := edX12_told_24.2.2.2.2.2.2.2.2.2.2.2.2.2.2.2
theorem edX12_told_52 : (decode cX12_told 52 = .ok (.istore_n 2, 1)) ∧ (decode cX12_told 53 = .ok (.iinc 3 1, 3)) ∧ (decode cX12_told 56 = .ok (.goto (-52), 3)) ∧ (decode cX12_told 59 = .ok (.iload_n 1, 1)) ∧ (decode cX12_told 60 = .ok (.tableswitch 62 0 5 #[40, 45, 50, 55, 60, 60], 40)) ∧ (decode cX12_told 100 = .ok (.aload_n 0, 1)) ∧ (decode cX12_told 101 = .ok (.getfield 179, 3)) ∧ (decode cX12_told 104 = .ok (.ireturn, 1)) ∧ (decode cX12_told 105 = .ok (.aload_n 0, 1)) ∧ (decode cX12_told 106 = .ok (.getfield 221, 3)) ∧ (decode cX12_told 109 = .ok (.ireturn, 1)) ∧ (decode cX12_told 110 = .ok (.aload_n 0, 1)) ∧ (decode cX12_told 111 = .ok (.getfield 291, 3)) ∧ (decode cX12_told 114 = .ok (.ireturn, 1)) ∧ (decode cX12_told 115 = .ok (.aload_n 0, 1)) ∧ (decode cX12_told 116 = .ok (.getfield 136, 3)) := by decide +kernel
def dX12_told_52 := edX12_told_52.1
def dX12_told_53 := edX12_told_52.2.1
def dX12_told_56 := edX12_told_52.2.2.1
def dX12_told_59 := edX12_told_52.2.2.2.1
def dX12_told_60 := edX12_told_52.2.2.2.2.1
def dX12_told_100 := edX12_told_52.2.2.2.2.2.1
def dX12_told_101 := edX12_told_52.2.2.2.2.2.2.1
def dX12_told_104 := edX12_told_52.2.2.2.2.2.2.2.1
def dX12_told_105 := edX12_told_52.2.2.2.2.2.2.2.2.1
def dX12_told_106 := edX12_told_52.2.2.2.2.2.2.2.2.2.1
def dX12_told_109 := edX12_told_52.2.2.2.2.2.2.2.2.2.2.1
def dX12_told_110 := edX12_told_52.2.2.2.2.2.2.2.2.2.2.2.1
def dX12_told_111 := edX12_told_52.2.2.2.2.2.2.2.2.2.2.2.2.1
def dX12_told_114 := edX12_told_52.2.2.2.2.2.2.2.2.2.2.2.2.2.1
def dX12_told_115 := edX12_told_52.2.2.2.2.2.2.2.2.2.2.2.2.2.2.1
def dX12_told_116 := edX12_told_52.2.2.2.2.2.2.2.2.2.2.2.2.2.2.2
theorem edX12_told_119 : (decode cX12_told 119 = .ok (.ireturn, 1)) ∧ (decode cX12_told 120 = .ok (.iload_n 2, 1)) ∧ (decode cX12_told 121 = .ok (.ireturn, 1)) ∧ (decode cX12_told 122 = .ok (.bipush (-2), 2)) ∧ (decode cX12_told 124 = .ok (.ireturn, 1)) := by decide +kernel
def dX12_told_119 := edX12_told_119.1
def dX12_told_120 := edX12_told_119.2.1
def dX12_told_121 := edX12_told_119.2.2.1
def dX12_told_122 := edX12_told_119.2.2.2.1
def dX12_told_124 := edX12_told_119.2.2.2.2
theorem edJ7_fill_53178_0 : (decode cJ7_fill_53178 0 = .ok (.iconst 0, 1)) ∧ (decode cJ7_fill_53178 1 = .ok (.istore_n 2, 1)) ∧ (decode cJ7_fill_53178 2 = .ok (.aload_n 0, 1)) ∧ (decode cJ7_fill_53178 3 = .ok (.arraylength, 1)) ∧ (decode cJ7_fill_53178 4 = .ok (.istore_n 3, 1)) ∧ (decode cJ7_fill_53178 5 = .ok (.iload_n 2, 1)) ∧ (decode cJ7_fill_53178 6 = .ok (.iload_n 3, 1)) ∧ (decode cJ7_fill_53178 7 = .ok (.if_icmp .ge 13, 3)) ∧ (decode cJ7_fill_53178 10 = .ok (.aload_n 0, 1)) ∧ (decode cJ7_fill_53178 11 = .ok (.iload_n 2, 1)) ∧ (decode cJ7_fill_53178 12 = .ok (.iload_n 1, 1)) ∧ (decode cJ7_fill_53178 13 = .ok (.iastore, 1)) ∧ (decode cJ7_fill_53178 14 = .ok (.iinc 2 1, 3)) ∧ (decode cJ7_fill_53178 17 = .ok (.goto (-12), 3)) ∧ (decode cJ7_fill_53178 20 = .ok (.return_, 1)) := by decide +kernel
def dJ7_fill_53178_0 := edJ7_fill_53178_0.1
def dJ7_fill_53178_1 := edJ7_fill_53178_0.2.1
def dJ7_fill_53178_2 := edJ7_fill_53178_0.2.2.1
def dJ7_fill_53178_3 := edJ7_fill_53178_0.2.2.2.1
def dJ7_fill_53178_4 := edJ7_fill_53178_0.2.2.2.2.1
def dJ7_fill_53178_5 := edJ7_fill_53178_0.2.2.2.2.2.1
def dJ7_fill_53178_6 := edJ7_fill_53178_0.2.2.2.2.2.2.1
def dJ7_fill_53178_7 := edJ7_fill_53178_0.2.2.2.2.2.2.2.1
def dJ7_fill_53178_10 := edJ7_fill_53178_0.2.2.2.2.2.2.2.2.1
def dJ7_fill_53178_11 := edJ7_fill_53178_0.2.2.2.2.2.2.2.2.2.1
def dJ7_fill_53178_12 := edJ7_fill_53178_0.2.2.2.2.2.2.2.2.2.2.1
def dJ7_fill_53178_13 := edJ7_fill_53178_0.2.2.2.2.2.2.2.2.2.2.2.1
def dJ7_fill_53178_14 := edJ7_fill_53178_0.2.2.2.2.2.2.2.2.2.2.2.2.1
def dJ7_fill_53178_17 := edJ7_fill_53178_0.2.2.2.2.2.2.2.2.2.2.2.2.2.1
def dJ7_fill_53178_20 := edJ7_fill_53178_0.2.2.2.2.2.2.2.2.2.2.2.2.2.2
abbrev vwCl : List vw_C := [(RX0, TX0, 7), (RX1, TX1, 13), (RX2, TX2, 7), (RX3, TX3, 5), (RX4, TX4, 5), (RX5, TX5, 4), (RX6, TX6, 4), (RX7, TX7, 5), (RX8, TX8, 4), (RX9, TX9, 1), (RX10, TX10, 7), (RX11, TX11, 15), (RX12, TX12, 66)]
