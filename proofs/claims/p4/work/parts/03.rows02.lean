theorem edX11_loads_32 : (decode cX11_loads 32 = .ok (.iconst (-1), 1)) ∧ (decode cX11_loads 33 = .ok (.ireturn, 1)) ∧ (decode cX11_loads 34 = .ok (.iload_n 3, 1)) ∧ (decode cX11_loads 35 = .ok (.invokestatic 117, 3)) ∧ (decode cX11_loads 38 = .ok (.ifCond .ne 6, 3)) ∧ (decode cX11_loads 41 = .ok (.bipush (-2), 2)) ∧ (decode cX11_loads 43 = .ok (.ireturn, 1)) ∧ (decode cX11_loads 44 = .ok (.aload 7, 2)) ∧ (decode cX11_loads 46 = .ok (.iload_n 3, 1)) ∧ (decode cX11_loads 47 = .ok (.invokevirtual 121, 3)) ∧ (decode cX11_loads 50 = .ok (.istore 8, 2)) ∧ (decode cX11_loads 52 = .ok (.iload 8, 2)) ∧ (decode cX11_loads 54 = .ok (.ifCond .eq 10, 3)) ∧ (decode cX11_loads 57 = .ok (.aload_n 0, 1)) ∧ (decode cX11_loads 58 = .ok (.iload 8, 2)) ∧ (decode cX11_loads 60 = .ok (.invokevirtual 124, 3)) := by decide +kernel
def dX11_loads_32 := edX11_loads_32.1
def dX11_loads_33 := edX11_loads_32.2.1
def dX11_loads_34 := edX11_loads_32.2.2.1
def dX11_loads_35 := edX11_loads_32.2.2.2.1
def dX11_loads_38 := edX11_loads_32.2.2.2.2.1
def dX11_loads_41 := edX11_loads_32.2.2.2.2.2.1
def dX11_loads_43 := edX11_loads_32.2.2.2.2.2.2.1
def dX11_loads_44 := edX11_loads_32.2.2.2.2.2.2.2.1
def dX11_loads_46 := edX11_loads_32.2.2.2.2.2.2.2.2.1
def dX11_loads_47 := edX11_loads_32.2.2.2.2.2.2.2.2.2.1
def dX11_loads_50 := edX11_loads_32.2.2.2.2.2.2.2.2.2.2.1
def dX11_loads_52 := edX11_loads_32.2.2.2.2.2.2.2.2.2.2.2.1
def dX11_loads_54 := edX11_loads_32.2.2.2.2.2.2.2.2.2.2.2.2.1
def dX11_loads_57 := edX11_loads_32.2.2.2.2.2.2.2.2.2.2.2.2.2.1
def dX11_loads_58 := edX11_loads_32.2.2.2.2.2.2.2.2.2.2.2.2.2.2.1
def dX11_loads_60 := edX11_loads_32.2.2.2.2.2.2.2.2.2.2.2.2.2.2.2
theorem edX11_loads_63 : (decode cX11_loads 63 = .ok (.ireturn, 1)) ∧ (decode cX11_loads 64 = .ok (.iload 5, 2)) ∧ (decode cX11_loads 66 = .ok (.ifCond .ge 9, 3)) ∧ (decode cX11_loads 69 = .ok (.aload_n 0, 1)) ∧ (decode cX11_loads 70 = .ok (.iconst 4, 1)) ∧ (decode cX11_loads 71 = .ok (.invokevirtual 124, 3)) ∧ (decode cX11_loads 74 = .ok (.ireturn, 1)) ∧ (decode cX11_loads 75 = .ok (.aload 7, 2)) ∧ (decode cX11_loads 77 = .ok (.iload 4, 2)) ∧ (decode cX11_loads 79 = .ok (.iload 5, 2)) ∧ (decode cX11_loads 81 = .ok (.invokevirtual 127, 3)) ∧ (decode cX11_loads 84 = .ok (.ifCond .ne 9, 3)) ∧ (decode cX11_loads 87 = .ok (.aload_n 0, 1)) ∧ (decode cX11_loads 88 = .ok (.iconst 3, 1)) ∧ (decode cX11_loads 89 = .ok (.invokevirtual 124, 3)) ∧ (decode cX11_loads 92 = .ok (.ireturn, 1)) := by decide +kernel
def dX11_loads_63 := edX11_loads_63.1
def dX11_loads_64 := edX11_loads_63.2.1
def dX11_loads_66 := edX11_loads_63.2.2.1
def dX11_loads_69 := edX11_loads_63.2.2.2.1
def dX11_loads_70 := edX11_loads_63.2.2.2.2.1
def dX11_loads_71 := edX11_loads_63.2.2.2.2.2.1
def dX11_loads_74 := edX11_loads_63.2.2.2.2.2.2.1
def dX11_loads_75 := edX11_loads_63.2.2.2.2.2.2.2.1
def dX11_loads_77 := edX11_loads_63.2.2.2.2.2.2.2.2.1
def dX11_loads_79 := edX11_loads_63.2.2.2.2.2.2.2.2.2.1
def dX11_loads_81 := edX11_loads_63.2.2.2.2.2.2.2.2.2.2.1
def dX11_loads_84 := edX11_loads_63.2.2.2.2.2.2.2.2.2.2.2.1
def dX11_loads_87 := edX11_loads_63.2.2.2.2.2.2.2.2.2.2.2.2.1
def dX11_loads_88 := edX11_loads_63.2.2.2.2.2.2.2.2.2.2.2.2.2.1
def dX11_loads_89 := edX11_loads_63.2.2.2.2.2.2.2.2.2.2.2.2.2.2.1
def dX11_loads_92 := edX11_loads_63.2.2.2.2.2.2.2.2.2.2.2.2.2.2.2
theorem edX11_loads_93 : (decode cX11_loads 93 = .ok (.iload 5, 2)) ∧ (decode cX11_loads 95 = .ok (.iconst 1, 1)) ∧ (decode cX11_loads 96 = .ok (.bipush 10, 2)) ∧ (decode cX11_loads 98 = .ok (.invokestatic 73, 3)) ∧ (decode cX11_loads 101 = .ok (.ifCond .eq 17, 3)) ∧ (decode cX11_loads 104 = .ok (.aload 7, 2)) ∧ (decode cX11_loads 106 = .ok (.iload 4, 2)) ∧ (decode cX11_loads 108 = .ok (.iload 5, 2)) ∧ (decode cX11_loads 110 = .ok (.ldc 131, 2)) ∧ (decode cX11_loads 112 = .ok (.invokevirtual 132, 3)) ∧ (decode cX11_loads 115 = .ok (.ifCond .ne 6, 3)) ∧ (decode cX11_loads 118 = .ok (.bipush (-2), 2)) ∧ (decode cX11_loads 120 = .ok (.ireturn, 1)) ∧ (decode cX11_loads 121 = .ok (.aload 6, 2)) ∧ (decode cX11_loads 123 = .ok (.aload 7, 2)) ∧ (decode cX11_loads 125 = .ok (.getfield 135, 3)) := by decide +kernel
def dX11_loads_93 := edX11_loads_93.1
def dX11_loads_95 := edX11_loads_93.2.1
def dX11_loads_96 := edX11_loads_93.2.2.1
def dX11_loads_98 := edX11_loads_93.2.2.2.1
def dX11_loads_101 := edX11_loads_93.2.2.2.2.1
def dX11_loads_104 := edX11_loads_93.2.2.2.2.2.1
def dX11_loads_106 := edX11_loads_93.2.2.2.2.2.2.1
def dX11_loads_108 := edX11_loads_93.2.2.2.2.2.2.2.1
def dX11_loads_110 := edX11_loads_93.2.2.2.2.2.2.2.2.1
def dX11_loads_112 := edX11_loads_93.2.2.2.2.2.2.2.2.2.1
def dX11_loads_115 := edX11_loads_93.2.2.2.2.2.2.2.2.2.2.1
def dX11_loads_118 := edX11_loads_93.2.2.2.2.2.2.2.2.2.2.2.1
def dX11_loads_120 := edX11_loads_93.2.2.2.2.2.2.2.2.2.2.2.2.1
def dX11_loads_121 := edX11_loads_93.2.2.2.2.2.2.2.2.2.2.2.2.2.1
def dX11_loads_123 := edX11_loads_93.2.2.2.2.2.2.2.2.2.2.2.2.2.2.1
def dX11_loads_125 := edX11_loads_93.2.2.2.2.2.2.2.2.2.2.2.2.2.2.2
theorem edX11_loads_128 : (decode cX11_loads 128 = .ok (.iload 4, 2)) ∧ (decode cX11_loads 130 = .ok (.iload 5, 2)) ∧ (decode cX11_loads 132 = .ok (.invokevirtual 138, 3)) ∧ (decode cX11_loads 135 = .ok (.iload 5, 2)) ∧ (decode cX11_loads 137 = .ok (.ireturn, 1)) := by decide +kernel
def dX11_loads_128 := edX11_loads_128.1
def dX11_loads_130 := edX11_loads_128.2.1
def dX11_loads_132 := edX11_loads_128.2.2.1
def dX11_loads_135 := edX11_loads_128.2.2.2.1
def dX11_loads_137 := edX11_loads_128.2.2.2.2
set_option maxRecDepth 100000 in
theorem ggX11_valve_X4_at : GoodIn wsX11_valve wsX4_at := goodIn_ca (b := wsX40) (goodIn_s _ [9, 10] [8] (by decide +kernel) rfl (by decide +kernel)) (goodIn_sub (fun w h => List.mem_cons_of_mem _ (List.mem_append_right _ h)) gs_wsX40)
set_option maxRecDepth 20000 in
theorem gX11_valve_X4_at : GoodIn wsX11_valve (wsV RX11 90 RX4 yX4_at wsX4_at) := goodIn_app (goodIn_of _ (by decide +kernel)) ggX11_valve_X4_at
set_option maxRecDepth 100000 in
theorem ggX11_valve_X11_within : GoodIn wsX11_valve wsX11_within := goodIn_s _ [] [14] (by decide +kernel) rfl (by decide +kernel)
set_option maxRecDepth 20000 in
theorem gX11_valve_X11_within : GoodIn wsX11_valve (va_wsS RX11 73 yX11_within wsX11_within) := goodIn_app (goodIn_of _ (by decide +kernel)) ggX11_valve_X11_within
set_option maxRecDepth 100000 in
theorem ggX11_valve_X11_swap : GoodIn wsX11_valve wsX11_swap := goodIn_s _ [18, 19, 13, 21, 22] [17, 20, 23] (by decide +kernel) rfl (by decide +kernel)
set_option maxRecDepth 20000 in
theorem gX11_valve_X11_swap : GoodIn wsX11_valve (va_wsS RX11 106 yX11_swap wsX11_swap) := goodIn_app (goodIn_of _ (by decide +kernel)) ggX11_valve_X11_swap
theorem edX11_valve_0 : (decode cX11_valve 0 = .ok (.aload_n 0, 1)) ∧ (decode cX11_valve 1 = .ok (.getfield 12, 3)) ∧ (decode cX11_valve 4 = .ok (.iload_n 1, 1)) ∧ (decode cX11_valve 5 = .ok (.invokevirtual 90, 3)) ∧ (decode cX11_valve 8 = .ok (.ifnonnull 5, 3)) ∧ (decode cX11_valve 11 = .ok (.iconst (-1), 1)) ∧ (decode cX11_valve 12 = .ok (.ireturn, 1)) ∧ (decode cX11_valve 13 = .ok (.iload_n 2, 1)) ∧ (decode cX11_valve 14 = .ok (.iconst 0, 1)) ∧ (decode cX11_valve 15 = .ok (.iconst 2, 1)) ∧ (decode cX11_valve 16 = .ok (.invokestatic 73, 3)) ∧ (decode cX11_valve 19 = .ok (.ifCond .eq 18, 3)) ∧ (decode cX11_valve 22 = .ok (.aload_n 0, 1)) ∧ (decode cX11_valve 23 = .ok (.getfield 21, 3)) ∧ (decode cX11_valve 26 = .ok (.getfield 142, 3)) ∧ (decode cX11_valve 29 = .ok (.iload_n 1, 1)) := by decide +kernel
def dX11_valve_0 := edX11_valve_0.1
def dX11_valve_1 := edX11_valve_0.2.1
def dX11_valve_4 := edX11_valve_0.2.2.1
def dX11_valve_5 := edX11_valve_0.2.2.2.1
def dX11_valve_8 := edX11_valve_0.2.2.2.2.1
def dX11_valve_11 := edX11_valve_0.2.2.2.2.2.1
def dX11_valve_12 := edX11_valve_0.2.2.2.2.2.2.1
def dX11_valve_13 := edX11_valve_0.2.2.2.2.2.2.2.1
def dX11_valve_14 := edX11_valve_0.2.2.2.2.2.2.2.2.1
def dX11_valve_15 := edX11_valve_0.2.2.2.2.2.2.2.2.2.1
def dX11_valve_16 := edX11_valve_0.2.2.2.2.2.2.2.2.2.2.1
def dX11_valve_19 := edX11_valve_0.2.2.2.2.2.2.2.2.2.2.2.1
def dX11_valve_22 := edX11_valve_0.2.2.2.2.2.2.2.2.2.2.2.2.1
def dX11_valve_23 := edX11_valve_0.2.2.2.2.2.2.2.2.2.2.2.2.2.1
def dX11_valve_26 := edX11_valve_0.2.2.2.2.2.2.2.2.2.2.2.2.2.2.1
def dX11_valve_29 := edX11_valve_0.2.2.2.2.2.2.2.2.2.2.2.2.2.2.2
theorem edX11_valve_30 : (decode cX11_valve 30 = .ok (.iload_n 2, 1)) ∧ (decode cX11_valve 31 = .ok (.invokestatic 106, 3)) ∧ (decode cX11_valve 34 = .ok (.goto 5, 3)) ∧ (decode cX11_valve 37 = .ok (.bipush (-2), 2)) ∧ (decode cX11_valve 39 = .ok (.ireturn, 1)) := by decide +kernel
def dX11_valve_30 := edX11_valve_30.1
def dX11_valve_31 := edX11_valve_30.2.1
def dX11_valve_34 := edX11_valve_30.2.2.1
def dX11_valve_37 := edX11_valve_30.2.2.2.1
def dX11_valve_39 := edX11_valve_30.2.2.2.2
set_option maxRecDepth 100000 in
theorem ggX11_fill_X4_at : GoodIn wsX11_fill wsX4_at := goodIn_ca (b := wsX40) (goodIn_s _ [9, 10] [8] (by decide +kernel) rfl (by decide +kernel)) (goodIn_sub (fun w h => List.mem_cons_of_mem _ (List.mem_append_left _ (List.mem_append_left _ (List.mem_append_left _ (List.mem_append_right _ h))))) gs_wsX40)
set_option maxRecDepth 20000 in
theorem gX11_fill_X4_at : GoodIn wsX11_fill (wsV RX11 90 RX4 yX4_at wsX4_at) := goodIn_app (goodIn_of _ (by decide +kernel)) ggX11_fill_X4_at
set_option maxRecDepth 100000 in
theorem ggX11_fill_X0_room : GoodIn wsX11_fill wsX0_room := goodIn_ca (b := wsX100) (goodIn_ca (b := wsX20) (goodIn_ca (b := wsX00) (goodIn_s _ [16, 17] [15] (by decide +kernel) rfl (by decide +kernel)) (goodIn_sub (fun w h => List.mem_cons_of_mem _ (List.mem_append_left _ (List.mem_append_left _ (List.mem_append_right _ h)))) gs_wsX00)) (goodIn_sub (fun w h => List.mem_cons_of_mem _ (List.mem_append_left _ (List.mem_append_right _ h))) gs_wsX20)) (goodIn_sub (fun w h => List.mem_cons_of_mem _ (List.mem_append_right _ h)) gs_wsX100)
set_option maxRecDepth 20000 in
theorem gX11_fill_X0_room : GoodIn wsX11_fill (wsV RX11 145 RX0 yX0_room wsX0_room) := goodIn_app (goodIn_of _ (by decide +kernel)) ggX11_fill_X0_room
set_option maxRecDepth 20000 in
theorem gX11_fill_X0_room_u145X2 : GoodIn wsX11_fill (va_wsU RX11 145 RX2 "OilPush$Cylinder" ⟨"OilPush$Cylinder", "room", "()I"⟩ yX0_room wsX0_room) := goodIn_app (goodIn_of _ (by decide +kernel)) ggX11_fill_X0_room
set_option maxRecDepth 20000 in
theorem gX11_fill_X0_room_u145X10 : GoodIn wsX11_fill (va_wsU RX11 145 RX10 "OilPush$Cylinder" ⟨"OilPush$Cylinder", "room", "()I"⟩ yX0_room wsX0_room) := goodIn_app (goodIn_of _ (by decide +kernel)) ggX11_fill_X0_room
set_option maxRecDepth 100000 in
theorem ggX11_fill_X11_within : GoodIn wsX11_fill wsX11_within := goodIn_s _ [] [25] (by decide +kernel) rfl (by decide +kernel)
set_option maxRecDepth 20000 in
theorem gX11_fill_X11_within : GoodIn wsX11_fill (va_wsS RX11 73 yX11_within wsX11_within) := goodIn_app (goodIn_of _ (by decide +kernel)) ggX11_fill_X11_within
set_option maxRecDepth 100000 in
theorem ggX11_fill_X11_swap : GoodIn wsX11_fill wsX11_swap := goodIn_s _ [29, 30, 24, 32, 33] [28, 31, 34] (by decide +kernel) rfl (by decide +kernel)
set_option maxRecDepth 20000 in
theorem gX11_fill_X11_swap : GoodIn wsX11_fill (va_wsS RX11 106 yX11_swap wsX11_swap) := goodIn_app (goodIn_of _ (by decide +kernel)) ggX11_fill_X11_swap
theorem edX11_fill_0 : (decode cX11_fill 0 = .ok (.aload_n 0, 1)) ∧ (decode cX11_fill 1 = .ok (.getfield 12, 3)) ∧ (decode cX11_fill 4 = .ok (.iload_n 1, 1)) ∧ (decode cX11_fill 5 = .ok (.invokevirtual 90, 3)) ∧ (decode cX11_fill 8 = .ok (.astore_n 3, 1)) ∧ (decode cX11_fill 9 = .ok (.aload_n 3, 1)) ∧ (decode cX11_fill 10 = .ok (.ifnonnull 5, 3)) ∧ (decode cX11_fill 13 = .ok (.iconst (-1), 1)) ∧ (decode cX11_fill 14 = .ok (.ireturn, 1)) ∧ (decode cX11_fill 15 = .ok (.iload_n 2, 1)) ∧ (decode cX11_fill 16 = .ok (.iconst 0, 1)) ∧ (decode cX11_fill 17 = .ok (.aload_n 3, 1)) ∧ (decode cX11_fill 18 = .ok (.invokevirtual 145, 3)) ∧ (decode cX11_fill 21 = .ok (.invokestatic 73, 3)) ∧ (decode cX11_fill 24 = .ok (.ifCond .eq 18, 3)) ∧ (decode cX11_fill 27 = .ok (.aload_n 0, 1)) := by decide +kernel
def dX11_fill_0 := edX11_fill_0.1
def dX11_fill_1 := edX11_fill_0.2.1
def dX11_fill_4 := edX11_fill_0.2.2.1
def dX11_fill_5 := edX11_fill_0.2.2.2.1
def dX11_fill_8 := edX11_fill_0.2.2.2.2.1
def dX11_fill_9 := edX11_fill_0.2.2.2.2.2.1
def dX11_fill_10 := edX11_fill_0.2.2.2.2.2.2.1
def dX11_fill_13 := edX11_fill_0.2.2.2.2.2.2.2.1
def dX11_fill_14 := edX11_fill_0.2.2.2.2.2.2.2.2.1
def dX11_fill_15 := edX11_fill_0.2.2.2.2.2.2.2.2.2.1
def dX11_fill_16 := edX11_fill_0.2.2.2.2.2.2.2.2.2.2.1
def dX11_fill_17 := edX11_fill_0.2.2.2.2.2.2.2.2.2.2.2.1
def dX11_fill_18 := edX11_fill_0.2.2.2.2.2.2.2.2.2.2.2.2.1
def dX11_fill_21 := edX11_fill_0.2.2.2.2.2.2.2.2.2.2.2.2.2.1
def dX11_fill_24 := edX11_fill_0.2.2.2.2.2.2.2.2.2.2.2.2.2.2.1
def dX11_fill_27 := edX11_fill_0.2.2.2.2.2.2.2.2.2.2.2.2.2.2.2
theorem edX11_fill_28 : (decode cX11_fill 28 = .ok (.getfield 21, 3)) ∧ (decode cX11_fill 31 = .ok (.getfield 149, 3)) ∧ (decode cX11_fill 34 = .ok (.iload_n 1, 1)) ∧ (decode cX11_fill 35 = .ok (.iload_n 2, 1)) ∧ (decode cX11_fill 36 = .ok (.invokestatic 106, 3)) ∧ (decode cX11_fill 39 = .ok (.goto 5, 3)) ∧ (decode cX11_fill 42 = .ok (.bipush (-2), 2)) ∧ (decode cX11_fill 44 = .ok (.ireturn, 1)) := by decide +kernel
def dX11_fill_28 := edX11_fill_28.1
def dX11_fill_31 := edX11_fill_28.2.1
def dX11_fill_34 := edX11_fill_28.2.2.1
def dX11_fill_35 := edX11_fill_28.2.2.2.1
def dX11_fill_36 := edX11_fill_28.2.2.2.2.1
def dX11_fill_39 := edX11_fill_28.2.2.2.2.2.1
def dX11_fill_42 := edX11_fill_28.2.2.2.2.2.2.1
def dX11_fill_44 := edX11_fill_28.2.2.2.2.2.2.2
set_option maxRecDepth 100000 in
theorem ggX11_burst_X4_at : GoodIn wsX11_burst wsX4_at := goodIn_ca (b := wsX40) (goodIn_s _ [9, 10] [8] (by decide +kernel) rfl (by decide +kernel)) (goodIn_sub (fun w h => List.mem_cons_of_mem _ (List.mem_append_right _ h)) gs_wsX40)
set_option maxRecDepth 20000 in
theorem gX11_burst_X4_at : GoodIn wsX11_burst (wsV RX11 90 RX4 yX4_at wsX4_at) := goodIn_app (goodIn_of _ (by decide +kernel)) ggX11_burst_X4_at
set_option maxRecDepth 100000 in
theorem ggX11_burst_X11_swap : GoodIn wsX11_burst wsX11_swap := goodIn_s _ [15, 16, 13, 18, 19] [14, 17, 20] (by decide +kernel) rfl (by decide +kernel)
set_option maxRecDepth 20000 in
theorem gX11_burst_X11_swap : GoodIn wsX11_burst (va_wsS RX11 106 yX11_swap wsX11_swap) := goodIn_app (goodIn_of _ (by decide +kernel)) ggX11_burst_X11_swap
theorem edX11_burst_0 : (decode cX11_burst 0 = .ok (.aload_n 0, 1)) ∧ (decode cX11_burst 1 = .ok (.getfield 12, 3)) ∧ (decode cX11_burst 4 = .ok (.iload_n 1, 1)) ∧ (decode cX11_burst 5 = .ok (.invokevirtual 90, 3)) ∧ (decode cX11_burst 8 = .ok (.ifnonnull 5, 3)) ∧ (decode cX11_burst 11 = .ok (.iconst (-1), 1)) ∧ (decode cX11_burst 12 = .ok (.ireturn, 1)) ∧ (decode cX11_burst 13 = .ok (.iload_n 2, 1)) ∧ (decode cX11_burst 14 = .ok (.ifCond .eq 7, 3)) ∧ (decode cX11_burst 17 = .ok (.iconst 1, 1)) ∧ (decode cX11_burst 18 = .ok (.goto 4, 3)) ∧ (decode cX11_burst 21 = .ok (.iconst 0, 1)) ∧ (decode cX11_burst 22 = .ok (.istore_n 3, 1)) ∧ (decode cX11_burst 23 = .ok (.aload_n 0, 1)) ∧ (decode cX11_burst 24 = .ok (.getfield 21, 3)) ∧ (decode cX11_burst 27 = .ok (.getfield 152, 3)) := by decide +kernel
def dX11_burst_0 := edX11_burst_0.1
def dX11_burst_1 := edX11_burst_0.2.1
def dX11_burst_4 := edX11_burst_0.2.2.1
def dX11_burst_5 := edX11_burst_0.2.2.2.1
def dX11_burst_8 := edX11_burst_0.2.2.2.2.1
def dX11_burst_11 := edX11_burst_0.2.2.2.2.2.1
def dX11_burst_12 := edX11_burst_0.2.2.2.2.2.2.1
def dX11_burst_13 := edX11_burst_0.2.2.2.2.2.2.2.1
def dX11_burst_14 := edX11_burst_0.2.2.2.2.2.2.2.2.1
def dX11_burst_17 := edX11_burst_0.2.2.2.2.2.2.2.2.2.1
def dX11_burst_18 := edX11_burst_0.2.2.2.2.2.2.2.2.2.2.1
def dX11_burst_21 := edX11_burst_0.2.2.2.2.2.2.2.2.2.2.2.1
def dX11_burst_22 := edX11_burst_0.2.2.2.2.2.2.2.2.2.2.2.2.1
def dX11_burst_23 := edX11_burst_0.2.2.2.2.2.2.2.2.2.2.2.2.2.1
def dX11_burst_24 := edX11_burst_0.2.2.2.2.2.2.2.2.2.2.2.2.2.2.1
def dX11_burst_27 := edX11_burst_0.2.2.2.2.2.2.2.2.2.2.2.2.2.2.2
theorem edX11_burst_30 : (decode cX11_burst 30 = .ok (.iload_n 1, 1)) ∧ (decode cX11_burst 31 = .ok (.iload_n 3, 1)) ∧ (decode cX11_burst 32 = .ok (.invokestatic 106, 3)) ∧ (decode cX11_burst 35 = .ok (.iload_n 3, 1)) ∧ (decode cX11_burst 36 = .ok (.if_icmp .ne 7, 3)) ∧ (decode cX11_burst 39 = .ok (.iconst 0, 1)) ∧ (decode cX11_burst 40 = .ok (.goto 4, 3)) ∧ (decode cX11_burst 43 = .ok (.iconst 1, 1)) ∧ (decode cX11_burst 44 = .ok (.ireturn, 1)) := by decide +kernel
def dX11_burst_30 := edX11_burst_30.1
def dX11_burst_31 := edX11_burst_30.2.1
def dX11_burst_32 := edX11_burst_30.2.2.1
def dX11_burst_35 := edX11_burst_30.2.2.2.1
def dX11_burst_36 := edX11_burst_30.2.2.2.2.1
def dX11_burst_39 := edX11_burst_30.2.2.2.2.2.1
def dX11_burst_40 := edX11_burst_30.2.2.2.2.2.2.1
def dX11_burst_43 := edX11_burst_30.2.2.2.2.2.2.2.1
def dX11_burst_44 := edX11_burst_30.2.2.2.2.2.2.2.2
set_option maxRecDepth 100000 in
theorem ggX11_store_X11_within : GoodIn wsX11_store wsX11_within := goodIn_s _ [] [10] (by decide +kernel) rfl (by decide +kernel)
set_option maxRecDepth 20000 in
theorem gX11_store_X11_within : GoodIn wsX11_store (va_wsS RX11 73 yX11_within wsX11_within) := goodIn_app (goodIn_of _ (by decide +kernel)) ggX11_store_X11_within
theorem edX11_store_0 : (decode cX11_store 0 = .ok (.iload_n 1, 1)) ∧ (decode cX11_store 1 = .ok (.iconst 0, 1)) ∧ (decode cX11_store 2 = .ok (.sipush 5000, 3)) ∧ (decode cX11_store 5 = .ok (.invokestatic 73, 3)) ∧ (decode cX11_store 8 = .ok (.ifCond .eq 24, 3)) ∧ (decode cX11_store 11 = .ok (.iload_n 2, 1)) ∧ (decode cX11_store 12 = .ok (.iconst 0, 1)) ∧ (decode cX11_store 13 = .ok (.sipush 1000, 3)) ∧ (decode cX11_store 16 = .ok (.invokestatic 73, 3)) ∧ (decode cX11_store 19 = .ok (.ifCond .eq 13, 3)) ∧ (decode cX11_store 22 = .ok (.iload_n 3, 1)) ∧ (decode cX11_store 23 = .ok (.iconst 1, 1)) ∧ (decode cX11_store 24 = .ok (.bipush 100, 2)) ∧ (decode cX11_store 26 = .ok (.invokestatic 73, 3)) ∧ (decode cX11_store 29 = .ok (.ifCond .ne 6, 3)) ∧ (decode cX11_store 32 = .ok (.bipush (-2), 2)) := by decide +kernel
def dX11_store_0 := edX11_store_0.1
def dX11_store_1 := edX11_store_0.2.1
def dX11_store_2 := edX11_store_0.2.2.1
def dX11_store_5 := edX11_store_0.2.2.2.1
def dX11_store_8 := edX11_store_0.2.2.2.2.1
def dX11_store_11 := edX11_store_0.2.2.2.2.2.1
def dX11_store_12 := edX11_store_0.2.2.2.2.2.2.1
def dX11_store_13 := edX11_store_0.2.2.2.2.2.2.2.1
def dX11_store_16 := edX11_store_0.2.2.2.2.2.2.2.2.1
def dX11_store_19 := edX11_store_0.2.2.2.2.2.2.2.2.2.1
def dX11_store_22 := edX11_store_0.2.2.2.2.2.2.2.2.2.2.1
def dX11_store_23 := edX11_store_0.2.2.2.2.2.2.2.2.2.2.2.1
def dX11_store_24 := edX11_store_0.2.2.2.2.2.2.2.2.2.2.2.2.1
def dX11_store_26 := edX11_store_0.2.2.2.2.2.2.2.2.2.2.2.2.2.1
def dX11_store_29 := edX11_store_0.2.2.2.2.2.2.2.2.2.2.2.2.2.2.1
def dX11_store_32 := edX11_store_0.2.2.2.2.2.2.2.2.2.2.2.2.2.2.2
theorem edX11_store_34 : (decode cX11_store 34 = .ok (.ireturn, 1)) ∧ (decode cX11_store 35 = .ok (.aload_n 0, 1)) ∧ (decode cX11_store 36 = .ok (.getfield 21, 3)) ∧ (decode cX11_store 39 = .ok (.getfield 155, 3)) ∧ (decode cX11_store 42 = .ok (.getfield 159, 3)) ∧ (decode cX11_store 45 = .ok (.iload_n 1, 1)) ∧ (decode cX11_store 46 = .ok (.if_icmp .le 6, 3)) ∧ (decode cX11_store 49 = .ok (.bipush (-3), 2)) ∧ (decode cX11_store 51 = .ok (.ireturn, 1)) ∧ (decode cX11_store 52 = .ok (.aload_n 0, 1)) ∧ (decode cX11_store 53 = .ok (.getfield 21, 3)) ∧ (decode cX11_store 56 = .ok (.getfield 155, 3)) ∧ (decode cX11_store 59 = .ok (.iload_n 1, 1)) ∧ (decode cX11_store 60 = .ok (.putfield 163, 3)) ∧ (decode cX11_store 63 = .ok (.aload_n 0, 1)) ∧ (decode cX11_store 64 = .ok (.getfield 21, 3)) := by decide +kernel
def dX11_store_34 := edX11_store_34.1
def dX11_store_35 := edX11_store_34.2.1
def dX11_store_36 := edX11_store_34.2.2.1
def dX11_store_39 := edX11_store_34.2.2.2.1
def dX11_store_42 := edX11_store_34.2.2.2.2.1
def dX11_store_45 := edX11_store_34.2.2.2.2.2.1
def dX11_store_46 := edX11_store_34.2.2.2.2.2.2.1
def dX11_store_49 := edX11_store_34.2.2.2.2.2.2.2.1
def dX11_store_51 := edX11_store_34.2.2.2.2.2.2.2.2.1
def dX11_store_52 := edX11_store_34.2.2.2.2.2.2.2.2.2.1
def dX11_store_53 := edX11_store_34.2.2.2.2.2.2.2.2.2.2.1
def dX11_store_56 := edX11_store_34.2.2.2.2.2.2.2.2.2.2.2.1
def dX11_store_59 := edX11_store_34.2.2.2.2.2.2.2.2.2.2.2.2.1
def dX11_store_60 := edX11_store_34.2.2.2.2.2.2.2.2.2.2.2.2.2.1
def dX11_store_63 := edX11_store_34.2.2.2.2.2.2.2.2.2.2.2.2.2.2.1
def dX11_store_64 := edX11_store_34.2.2.2.2.2.2.2.2.2.2.2.2.2.2.2
theorem edX11_store_67 : (decode cX11_store 67 = .ok (.getfield 155, 3)) ∧ (decode cX11_store 70 = .ok (.iload_n 2, 1)) ∧ (decode cX11_store 71 = .ok (.putfield 166, 3)) ∧ (decode cX11_store 74 = .ok (.aload_n 0, 1)) ∧ (decode cX11_store 75 = .ok (.getfield 21, 3)) ∧ (decode cX11_store 78 = .ok (.getfield 155, 3)) ∧ (decode cX11_store 81 = .ok (.iload_n 3, 1)) ∧ (decode cX11_store 82 = .ok (.putfield 169, 3)) ∧ (decode cX11_store 85 = .ok (.iconst 1, 1)) ∧ (decode cX11_store 86 = .ok (.ireturn, 1)) := by decide +kernel
def dX11_store_67 := edX11_store_67.1
def dX11_store_70 := edX11_store_67.2.1
def dX11_store_71 := edX11_store_67.2.2.1
def dX11_store_74 := edX11_store_67.2.2.2.1
def dX11_store_75 := edX11_store_67.2.2.2.2.1
def dX11_store_78 := edX11_store_67.2.2.2.2.2.1
def dX11_store_81 := edX11_store_67.2.2.2.2.2.2.1
def dX11_store_82 := edX11_store_67.2.2.2.2.2.2.2.1
def dX11_store_85 := edX11_store_67.2.2.2.2.2.2.2.2.1
def dX11_store_86 := edX11_store_67.2.2.2.2.2.2.2.2.2
set_option maxRecDepth 100000 in
theorem ggX11_about_X4_at : GoodIn wsX11_about wsX4_at := goodIn_ca (b := wsX40) (goodIn_s _ [16, 17] [15] (by decide +kernel) rfl (by decide +kernel)) (goodIn_sub (fun w h => List.mem_cons_of_mem _ (List.mem_append_right _ h)) gs_wsX40)
set_option maxRecDepth 20000 in
theorem gX11_about_X4_at : GoodIn wsX11_about (wsV RX11 90 RX4 yX4_at wsX4_at) := goodIn_app (goodIn_of _ (by decide +kernel)) ggX11_about_X4_at
set_option maxRecDepth 100000 in
theorem ggX11_about_X0_kind : GoodIn wsX11_about wsX0_kind := goodIn_s _ [] [22] (by decide +kernel) rfl (by decide +kernel)
set_option maxRecDepth 20000 in
theorem gX11_about_X0_kind : GoodIn wsX11_about (wsV RX11 172 RX0 yX0_kind wsX0_kind) := goodIn_app (goodIn_of _ (by decide +kernel)) ggX11_about_X0_kind
set_option maxRecDepth 100000 in
theorem ggX11_about_X2_kind : GoodIn wsX11_about wsX2_kind := goodIn_s _ [] [29] (by decide +kernel) rfl (by decide +kernel)
set_option maxRecDepth 20000 in
theorem gX11_about_X2_kind_u172X2 : GoodIn wsX11_about (va_wsO RX11 172 RX2 "OilPush$Cylinder" ⟨"OilPush$Cylinder", "kind", "()I"⟩ yX2_kind wsX2_kind) := goodIn_app (goodIn_of _ (by decide +kernel)) ggX11_about_X2_kind
set_option maxRecDepth 100000 in
theorem ggX11_about_X10_kind : GoodIn wsX11_about wsX10_kind := goodIn_s _ [] [33] (by decide +kernel) rfl (by decide +kernel)
set_option maxRecDepth 20000 in
theorem gX11_about_X10_kind_u172X10 : GoodIn wsX11_about (va_wsO RX11 172 RX10 "OilPush$Cylinder" ⟨"OilPush$Cylinder", "kind", "()I"⟩ yX10_kind wsX10_kind) := goodIn_app (goodIn_of _ (by decide +kernel)) ggX11_about_X10_kind
set_option maxRecDepth 100000 in
theorem ggX11_about_X11_get : GoodIn wsX11_about wsX11_get := goodIn_s _ [] [37] (by decide +kernel) rfl (by decide +kernel)
set_option maxRecDepth 20000 in
theorem gX11_about_X11_get : GoodIn wsX11_about (va_wsS RX11 181 yX11_get wsX11_get) := goodIn_app (goodIn_of _ (by decide +kernel)) ggX11_about_X11_get
set_option maxRecDepth 100000 in
theorem ggX11_about_X0_loadAt : GoodIn wsX11_about wsX0_loadAt := goodIn_ca (b := wsX100) (goodIn_ca (b := wsX20) (goodIn_ca (b := wsX00) (goodIn_s _ [42, 43, 44, 45, 46, 48, 49, 50, 21, 52, 53, 54, 55, 56, 57, 35, 36] [41, 47, 51, 37] (by decide +kernel) rfl (by decide +kernel)) (goodIn_sub (fun w h => List.mem_cons_of_mem _ (List.mem_append_left _ (List.mem_append_left _ (List.mem_append_left _ (List.mem_append_left _ (List.mem_append_left _ (List.mem_append_right _ h))))))) gs_wsX00)) (goodIn_sub (fun w h => List.mem_cons_of_mem _ (List.mem_append_left _ (List.mem_append_left _ (List.mem_append_left _ (List.mem_append_left _ (List.mem_append_right _ h)))))) gs_wsX20)) (goodIn_sub (fun w h => List.mem_cons_of_mem _ (List.mem_append_left _ (List.mem_append_left _ (List.mem_append_left _ (List.mem_append_right _ h))))) gs_wsX100)
set_option maxRecDepth 20000 in
theorem gX11_about_X0_loadAt : GoodIn wsX11_about (wsV RX11 185 RX0 yX0_loadAt wsX0_loadAt) := goodIn_app (goodIn_of _ (by decide +kernel)) ggX11_about_X0_loadAt
set_option maxRecDepth 20000 in
theorem gX11_about_X0_loadAt_u185X2 : GoodIn wsX11_about (va_wsU RX11 185 RX2 "OilPush$Cylinder" ⟨"OilPush$Cylinder", "loadAt", "(I)I"⟩ yX0_loadAt wsX0_loadAt) := goodIn_app (goodIn_of _ (by decide +kernel)) ggX11_about_X0_loadAt
set_option maxRecDepth 20000 in
theorem gX11_about_X0_loadAt_u185X10 : GoodIn wsX11_about (va_wsU RX11 185 RX10 "OilPush$Cylinder" ⟨"OilPush$Cylinder", "loadAt", "(I)I"⟩ yX0_loadAt wsX0_loadAt) := goodIn_app (goodIn_of _ (by decide +kernel)) ggX11_about_X0_loadAt
set_option maxRecDepth 100000 in
theorem ggX11_about_X0_needAt : GoodIn wsX11_about wsX0_needAt := goodIn_ca (b := wsX100) (goodIn_ca (b := wsX20) (goodIn_ca (b := wsX00) (goodIn_s _ [66, 67, 39, 40, 21, 42, 43, 44, 45, 46, 48, 49, 50, 52, 53, 54, 55, 56, 57, 35, 36, 68, 59, 60, 61, 69, 70, 71, 73, 74, 75, 76, 77, 78, 32] [65, 41, 47, 51, 37, 72, 79] (by decide +kernel) rfl (by decide +kernel)) (goodIn_sub (fun w h => List.mem_cons_of_mem _ (List.mem_append_left _ (List.mem_append_left _ (List.mem_append_left _ (List.mem_append_left _ (List.mem_append_left _ (List.mem_append_right _ h))))))) gs_wsX00)) (goodIn_sub (fun w h => List.mem_cons_of_mem _ (List.mem_append_left _ (List.mem_append_left _ (List.mem_append_left _ (List.mem_append_left _ (List.mem_append_right _ h)))))) gs_wsX20)) (goodIn_sub (fun w h => List.mem_cons_of_mem _ (List.mem_append_left _ (List.mem_append_left _ (List.mem_append_left _ (List.mem_append_right _ h))))) gs_wsX100)
set_option maxRecDepth 20000 in
theorem gX11_about_X0_needAt : GoodIn wsX11_about (wsV RX11 188 RX0 yX0_needAt wsX0_needAt) := goodIn_app (goodIn_of _ (by decide +kernel)) ggX11_about_X0_needAt
set_option maxRecDepth 20000 in
theorem gX11_about_X0_needAt_u188X2 : GoodIn wsX11_about (va_wsU RX11 188 RX2 "OilPush$Cylinder" ⟨"OilPush$Cylinder", "needAt", "(I)I"⟩ yX0_needAt wsX0_needAt) := goodIn_app (goodIn_of _ (by decide +kernel)) ggX11_about_X0_needAt
set_option maxRecDepth 20000 in
theorem gX11_about_X0_needAt_u188X10 : GoodIn wsX11_about (va_wsU RX11 188 RX10 "OilPush$Cylinder" ⟨"OilPush$Cylinder", "needAt", "(I)I"⟩ yX0_needAt wsX0_needAt) := goodIn_app (goodIn_of _ (by decide +kernel)) ggX11_about_X0_needAt
theorem edX11_about_0 : (decode cX11_about 0 = .ok (.aload_n 0, 1)) ∧ (decode cX11_about 1 = .ok (.getfield 12, 3)) ∧ (decode cX11_about 4 = .ok (.iload_n 1, 1)) ∧ (decode cX11_about 5 = .ok (.invokevirtual 90, 3)) ∧ (decode cX11_about 8 = .ok (.astore_n 3, 1)) ∧ (decode cX11_about 9 = .ok (.aload_n 3, 1)) ∧ (decode cX11_about 10 = .ok (.ifnonnull 5, 3)) ∧ (decode cX11_about 13 = .ok (.iconst (-1), 1)) ∧ (decode cX11_about 14 = .ok (.ireturn, 1)) ∧ (decode cX11_about 15 = .ok (.iload_n 2, 1)) ∧ (decode cX11_about 16 = .ok (.tableswitch 156 0 9 #[56, 61, 66, 71, 83, 99, 115, 127, 132, 144], 56)) ∧ (decode cX11_about 72 = .ok (.aload_n 3, 1)) ∧ (decode cX11_about 73 = .ok (.invokevirtual 172, 3)) ∧ (decode cX11_about 76 = .ok (.ireturn, 1)) ∧ (decode cX11_about 77 = .ok (.aload_n 3, 1)) ∧ (decode cX11_about 78 = .ok (.getfield 175, 3)) := by decide +kernel
def dX11_about_0 := edX11_about_0.1
def dX11_about_1 := edX11_about_0.2.1
def dX11_about_4 := edX11_about_0.2.2.1
def dX11_about_5 := edX11_about_0.2.2.2.1
def dX11_about_8 := edX11_about_0.2.2.2.2.1
def dX11_about_9 := edX11_about_0.2.2.2.2.2.1
def dX11_about_10 := edX11_about_0.2.2.2.2.2.2.1
def dX11_about_13 := edX11_about_0.2.2.2.2.2.2.2.1
def dX11_about_14 := edX11_about_0.2.2.2.2.2.2.2.2.1
def dX11_about_15 := edX11_about_0.2.2.2.2.2.2.2.2.2.1
def dX11_about_16 := edX11_about_0.2.2.2.2.2.2.2.2.2.2.1
def dX11_about_72 := edX11_about_0.2.2.2.2.2.2.2.2.2.2.2.1
def dX11_about_73 := edX11_about_0.2.2.2.2.2.2.2.2.2.2.2.2.1
def dX11_about_76 := edX11_about_0.2.2.2.2.2.2.2.2.2.2.2.2.2.1
def dX11_about_77 := edX11_about_0.2.2.2.2.2.2.2.2.2.2.2.2.2.2.1
def dX11_about_78 := edX11_about_0.2.2.2.2.2.2.2.2.2.2.2.2.2.2.2
theorem edX11_about_81 : (decode cX11_about 81 = .ok (.ireturn, 1)) ∧ (decode cX11_about 82 = .ok (.aload_n 3, 1)) ∧ (decode cX11_about 83 = .ok (.getfield 178, 3)) ∧ (decode cX11_about 86 = .ok (.ireturn, 1)) ∧ (decode cX11_about 87 = .ok (.aload_n 0, 1)) ∧ (decode cX11_about 88 = .ok (.getfield 21, 3)) ∧ (decode cX11_about 91 = .ok (.getfield 149, 3)) ∧ (decode cX11_about 94 = .ok (.iload_n 1, 1)) ∧ (decode cX11_about 95 = .ok (.invokestatic 181, 3)) ∧ (decode cX11_about 98 = .ok (.ireturn, 1)) ∧ (decode cX11_about 99 = .ok (.aload_n 3, 1)) ∧ (decode cX11_about 100 = .ok (.aload_n 0, 1)) ∧ (decode cX11_about 101 = .ok (.getfield 21, 3)) ∧ (decode cX11_about 104 = .ok (.getfield 149, 3)) ∧ (decode cX11_about 107 = .ok (.iload_n 1, 1)) ∧ (decode cX11_about 108 = .ok (.invokestatic 181, 3)) := by decide +kernel
def dX11_about_81 := edX11_about_81.1
def dX11_about_82 := edX11_about_81.2.1
def dX11_about_83 := edX11_about_81.2.2.1
def dX11_about_86 := edX11_about_81.2.2.2.1
def dX11_about_87 := edX11_about_81.2.2.2.2.1
def dX11_about_88 := edX11_about_81.2.2.2.2.2.1
def dX11_about_91 := edX11_about_81.2.2.2.2.2.2.1
def dX11_about_94 := edX11_about_81.2.2.2.2.2.2.2.1
def dX11_about_95 := edX11_about_81.2.2.2.2.2.2.2.2.1
def dX11_about_98 := edX11_about_81.2.2.2.2.2.2.2.2.2.1
def dX11_about_99 := edX11_about_81.2.2.2.2.2.2.2.2.2.2.1
def dX11_about_100 := edX11_about_81.2.2.2.2.2.2.2.2.2.2.2.1
def dX11_about_101 := edX11_about_81.2.2.2.2.2.2.2.2.2.2.2.2.1
def dX11_about_104 := edX11_about_81.2.2.2.2.2.2.2.2.2.2.2.2.2.1
def dX11_about_107 := edX11_about_81.2.2.2.2.2.2.2.2.2.2.2.2.2.2.1
def dX11_about_108 := edX11_about_81.2.2.2.2.2.2.2.2.2.2.2.2.2.2.2
theorem edX11_about_111 : (decode cX11_about 111 = .ok (.invokevirtual 185, 3)) ∧ (decode cX11_about 114 = .ok (.ireturn, 1)) ∧ (decode cX11_about 115 = .ok (.aload_n 3, 1)) ∧ (decode cX11_about 116 = .ok (.aload_n 0, 1)) ∧ (decode cX11_about 117 = .ok (.getfield 21, 3)) ∧ (decode cX11_about 120 = .ok (.getfield 149, 3)) ∧ (decode cX11_about 123 = .ok (.iload_n 1, 1)) ∧ (decode cX11_about 124 = .ok (.invokestatic 181, 3)) ∧ (decode cX11_about 127 = .ok (.invokevirtual 188, 3)) ∧ (decode cX11_about 130 = .ok (.ireturn, 1)) ∧ (decode cX11_about 131 = .ok (.aload_n 0, 1)) ∧ (decode cX11_about 132 = .ok (.getfield 21, 3)) ∧ (decode cX11_about 135 = .ok (.getfield 142, 3)) ∧ (decode cX11_about 138 = .ok (.iload_n 1, 1)) ∧ (decode cX11_about 139 = .ok (.invokestatic 181, 3)) ∧ (decode cX11_about 142 = .ok (.ireturn, 1)) := by decide +kernel
def dX11_about_111 := edX11_about_111.1
def dX11_about_114 := edX11_about_111.2.1
def dX11_about_115 := edX11_about_111.2.2.1
def dX11_about_116 := edX11_about_111.2.2.2.1
def dX11_about_117 := edX11_about_111.2.2.2.2.1
def dX11_about_120 := edX11_about_111.2.2.2.2.2.1
def dX11_about_123 := edX11_about_111.2.2.2.2.2.2.1
def dX11_about_124 := edX11_about_111.2.2.2.2.2.2.2.1
def dX11_about_127 := edX11_about_111.2.2.2.2.2.2.2.2.1
def dX11_about_130 := edX11_about_111.2.2.2.2.2.2.2.2.2.1
def dX11_about_131 := edX11_about_111.2.2.2.2.2.2.2.2.2.2.1
def dX11_about_132 := edX11_about_111.2.2.2.2.2.2.2.2.2.2.2.1
def dX11_about_135 := edX11_about_111.2.2.2.2.2.2.2.2.2.2.2.2.1
def dX11_about_138 := edX11_about_111.2.2.2.2.2.2.2.2.2.2.2.2.2.1
def dX11_about_139 := edX11_about_111.2.2.2.2.2.2.2.2.2.2.2.2.2.2.1
def dX11_about_142 := edX11_about_111.2.2.2.2.2.2.2.2.2.2.2.2.2.2.2
theorem edX11_about_143 : (decode cX11_about 143 = .ok (.aload_n 3, 1)) ∧ (decode cX11_about 144 = .ok (.getfield 191, 3)) ∧ (decode cX11_about 147 = .ok (.ireturn, 1)) ∧ (decode cX11_about 148 = .ok (.aload_n 0, 1)) ∧ (decode cX11_about 149 = .ok (.getfield 21, 3)) ∧ (decode cX11_about 152 = .ok (.getfield 152, 3)) ∧ (decode cX11_about 155 = .ok (.iload_n 1, 1)) ∧ (decode cX11_about 156 = .ok (.invokestatic 181, 3)) ∧ (decode cX11_about 159 = .ok (.ireturn, 1)) ∧ (decode cX11_about 160 = .ok (.aload_n 0, 1)) ∧ (decode cX11_about 161 = .ok (.getfield 28, 3)) ∧ (decode cX11_about 164 = .ok (.getfield 194, 3)) ∧ (decode cX11_about 167 = .ok (.iload_n 1, 1)) ∧ (decode cX11_about 168 = .ok (.invokestatic 181, 3)) ∧ (decode cX11_about 171 = .ok (.ireturn, 1)) ∧ (decode cX11_about 172 = .ok (.bipush (-2), 2)) := by decide +kernel
def dX11_about_143 := edX11_about_143.1
def dX11_about_144 := edX11_about_143.2.1
def dX11_about_147 := edX11_about_143.2.2.1
def dX11_about_148 := edX11_about_143.2.2.2.1
def dX11_about_149 := edX11_about_143.2.2.2.2.1
def dX11_about_152 := edX11_about_143.2.2.2.2.2.1
def dX11_about_155 := edX11_about_143.2.2.2.2.2.2.1
def dX11_about_156 := edX11_about_143.2.2.2.2.2.2.2.1
def dX11_about_159 := edX11_about_143.2.2.2.2.2.2.2.2.1
def dX11_about_160 := edX11_about_143.2.2.2.2.2.2.2.2.2.1
def dX11_about_161 := edX11_about_143.2.2.2.2.2.2.2.2.2.2.1
def dX11_about_164 := edX11_about_143.2.2.2.2.2.2.2.2.2.2.2.1
def dX11_about_167 := edX11_about_143.2.2.2.2.2.2.2.2.2.2.2.2.1
def dX11_about_168 := edX11_about_143.2.2.2.2.2.2.2.2.2.2.2.2.2.1
def dX11_about_171 := edX11_about_143.2.2.2.2.2.2.2.2.2.2.2.2.2.2.1
def dX11_about_172 := edX11_about_143.2.2.2.2.2.2.2.2.2.2.2.2.2.2.2
theorem dX11_about_174 : decode cX11_about 174 = .ok (.ireturn, 1) := by decide +kernel
set_option maxRecDepth 100000 in
theorem ggX11_tick_X11_within : GoodIn wsX11_tick wsX11_within := goodIn_s _ [] [12] (by decide +kernel) rfl (by decide +kernel)
set_option maxRecDepth 20000 in
theorem gX11_tick_X11_within : GoodIn wsX11_tick (va_wsS RX11 73 yX11_within wsX11_within) := goodIn_app (goodIn_of _ (by decide +kernel)) ggX11_tick_X11_within
set_option maxRecDepth 100000 in
theorem ggX11_tick_X3_obey : GoodIn wsX11_tick wsX3_obey := goodIn_ca (b := wsX40) (goodIn_ca (b := wsX100) (goodIn_ca (b := wsX20) (goodIn_ca (b := wsX00) (goodIn_ca (b := wsX30) (goodIn_ca (b := wsX70) (goodIn_s _ [18, 19, 20, 21, 22, 23, 24, 25, 26, 27, 11, 29, 30, 31, 32, 34, 35, 36, 37, 38, 39, 41, 42, 43, 45, 46, 47, 48, 49, 50, 51, 52, 53, 54, 55] [17, 28, 33, 40, 44, 56] (by decide +kernel) rfl (by decide +kernel)) (goodIn_sub (fun w h => List.mem_cons_of_mem _ (List.mem_append_left _ (List.mem_append_left _ (List.mem_append_left _ (List.mem_append_left _ (List.mem_append_left _ (List.mem_append_left _ (List.mem_append_right _ h)))))))) gs_wsX70)) (goodIn_sub (fun w h => List.mem_cons_of_mem _ (List.mem_append_left _ (List.mem_append_left _ (List.mem_append_left _ (List.mem_append_left _ (List.mem_append_left _ (List.mem_append_right _ h))))))) gs_wsX30)) (goodIn_sub (fun w h => List.mem_cons_of_mem _ (List.mem_append_left _ (List.mem_append_left _ (List.mem_append_left _ (List.mem_append_left _ (List.mem_append_right _ h)))))) gs_wsX00)) (goodIn_sub (fun w h => List.mem_cons_of_mem _ (List.mem_append_left _ (List.mem_append_left _ (List.mem_append_left _ (List.mem_append_right _ h))))) gs_wsX20)) (goodIn_sub (fun w h => List.mem_cons_of_mem _ (List.mem_append_left _ (List.mem_append_left _ (List.mem_append_right _ h)))) gs_wsX100)) (goodIn_sub (fun w h => List.mem_cons_of_mem _ (List.mem_append_left _ (List.mem_append_left _ (List.mem_append_left _ (List.mem_append_left _ (List.mem_append_left _ (List.mem_append_left _ (List.mem_append_left _ (List.mem_append_right _ h))))))))) gs_wsX40)
set_option maxRecDepth 20000 in
theorem gX11_tick_X3_obey : GoodIn wsX11_tick (wsV RX11 200 RX3 yX3_obey wsX3_obey) := goodIn_app (goodIn_of _ (by decide +kernel)) ggX11_tick_X3_obey
set_option maxRecDepth 100000 in
theorem ggX11_tick_X1_run : GoodIn wsX11_tick wsX1_run := goodIn_ca (b := wsX100) (goodIn_ca (b := wsX20) (goodIn_ca (b := wsX00) (goodIn_ca (b := wsX80) (goodIn_ca (b := wsX70) (goodIn_ca (b := wsX40) (goodIn_ca (b := wsX10) (goodIn_s _ [62, 63, 64, 65, 66, 67, 68, 69, 70, 72, 73, 74, 75, 76, 78, 30, 31, 32, 34, 35, 79, 80, 81, 60, 83, 84, 27, 11, 85, 86, 87, 89, 90, 91, 92, 93, 94, 95, 39, 97, 98, 99, 41, 42, 43, 45, 46, 47, 48, 49, 50, 100, 101, 102, 103, 55, 104, 105, 106, 108, 109, 110, 111, 112, 113, 114, 116, 117, 118, 119, 120, 121, 123, 124, 125, 126, 127, 128, 129, 131, 132, 133, 134, 135, 136, 137, 138, 139, 141, 142, 143, 144, 146, 147, 148, 149, 150, 152, 153, 154, 155, 157, 158, 159, 160, 161, 162, 164, 165, 166, 167, 168, 169] [61, 71, 77, 33, 82, 28, 88, 96, 44, 56, 107, 115, 122, 130, 140, 145, 151, 156, 163, 170] (by decide +kernel) rfl (by decide +kernel)) (goodIn_sub (fun w h => List.mem_cons_of_mem _ (List.mem_append_left _ (List.mem_append_right _ h))) gs_wsX10)) (goodIn_sub (fun w h => List.mem_cons_of_mem _ (List.mem_append_left _ (List.mem_append_left _ (List.mem_append_left _ (List.mem_append_left _ (List.mem_append_left _ (List.mem_append_left _ (List.mem_append_left _ (List.mem_append_right _ h))))))))) gs_wsX40)) (goodIn_sub (fun w h => List.mem_cons_of_mem _ (List.mem_append_left _ (List.mem_append_left _ (List.mem_append_left _ (List.mem_append_left _ (List.mem_append_left _ (List.mem_append_left _ (List.mem_append_right _ h)))))))) gs_wsX70)) (goodIn_sub (fun w h => List.mem_cons_of_mem _ (List.mem_append_right _ h)) gs_wsX80)) (goodIn_sub (fun w h => List.mem_cons_of_mem _ (List.mem_append_left _ (List.mem_append_left _ (List.mem_append_left _ (List.mem_append_left _ (List.mem_append_right _ h)))))) gs_wsX00)) (goodIn_sub (fun w h => List.mem_cons_of_mem _ (List.mem_append_left _ (List.mem_append_left _ (List.mem_append_left _ (List.mem_append_right _ h))))) gs_wsX20)) (goodIn_sub (fun w h => List.mem_cons_of_mem _ (List.mem_append_left _ (List.mem_append_left _ (List.mem_append_right _ h)))) gs_wsX100)
set_option maxRecDepth 20000 in
theorem gX11_tick_X1_run : GoodIn wsX11_tick (wsV RX11 204 RX1 yX1_run wsX1_run) := goodIn_app (goodIn_of _ (by decide +kernel)) ggX11_tick_X1_run
theorem edX11_tick_0 : (decode cX11_tick 0 = .ok (.iload_n 1, 1)) ∧ (decode cX11_tick 1 = .ok (.iconst 0, 1)) ∧ (decode cX11_tick 2 = .ok (.sipush 200, 3)) ∧ (decode cX11_tick 5 = .ok (.invokestatic 73, 3)) ∧ (decode cX11_tick 8 = .ok (.ifCond .ne 6, 3)) ∧ (decode cX11_tick 11 = .ok (.bipush (-2), 2)) ∧ (decode cX11_tick 13 = .ok (.ireturn, 1)) ∧ (decode cX11_tick 14 = .ok (.aload_n 0, 1)) ∧ (decode cX11_tick 15 = .ok (.getfield 197, 3)) ∧ (decode cX11_tick 18 = .ok (.iload_n 1, 1)) ∧ (decode cX11_tick 19 = .ok (.iadd, 1)) ∧ (decode cX11_tick 20 = .ok (.ldc 131, 2)) ∧ (decode cX11_tick 22 = .ok (.if_icmp .le 6, 3)) ∧ (decode cX11_tick 25 = .ok (.bipush (-3), 2)) ∧ (decode cX11_tick 27 = .ok (.ireturn, 1)) ∧ (decode cX11_tick 28 = .ok (.iconst 0, 1)) := by decide +kernel
def dX11_tick_0 := edX11_tick_0.1
def dX11_tick_1 := edX11_tick_0.2.1
def dX11_tick_2 := edX11_tick_0.2.2.1
def dX11_tick_5 := edX11_tick_0.2.2.2.1
def dX11_tick_8 := edX11_tick_0.2.2.2.2.1
def dX11_tick_11 := edX11_tick_0.2.2.2.2.2.1
def dX11_tick_13 := edX11_tick_0.2.2.2.2.2.2.1
def dX11_tick_14 := edX11_tick_0.2.2.2.2.2.2.2.1
def dX11_tick_15 := edX11_tick_0.2.2.2.2.2.2.2.2.1
def dX11_tick_18 := edX11_tick_0.2.2.2.2.2.2.2.2.2.1
def dX11_tick_19 := edX11_tick_0.2.2.2.2.2.2.2.2.2.2.1
def dX11_tick_20 := edX11_tick_0.2.2.2.2.2.2.2.2.2.2.2.1
def dX11_tick_22 := edX11_tick_0.2.2.2.2.2.2.2.2.2.2.2.2.1
def dX11_tick_25 := edX11_tick_0.2.2.2.2.2.2.2.2.2.2.2.2.2.1
def dX11_tick_27 := edX11_tick_0.2.2.2.2.2.2.2.2.2.2.2.2.2.2.1
def dX11_tick_28 := edX11_tick_0.2.2.2.2.2.2.2.2.2.2.2.2.2.2.2
theorem edX11_tick_29 : (decode cX11_tick 29 = .ok (.istore_n 2, 1)) ∧ (decode cX11_tick 30 = .ok (.iload_n 2, 1)) ∧ (decode cX11_tick 31 = .ok (.iload_n 1, 1)) ∧ (decode cX11_tick 32 = .ok (.if_icmp .ge 46, 3)) ∧ (decode cX11_tick 35 = .ok (.aload_n 0, 1)) ∧ (decode cX11_tick 36 = .ok (.getfield 35, 3)) ∧ (decode cX11_tick 39 = .ok (.aload_n 0, 1)) ∧ (decode cX11_tick 40 = .ok (.getfield 12, 3)) ∧ (decode cX11_tick 43 = .ok (.aload_n 0, 1)) ∧ (decode cX11_tick 44 = .ok (.getfield 21, 3)) ∧ (decode cX11_tick 47 = .ok (.invokevirtual 200, 3)) ∧ (decode cX11_tick 50 = .ok (.aload_n 0, 1)) ∧ (decode cX11_tick 51 = .ok (.getfield 28, 3)) ∧ (decode cX11_tick 54 = .ok (.aload_n 0, 1)) ∧ (decode cX11_tick 55 = .ok (.getfield 12, 3)) ∧ (decode cX11_tick 58 = .ok (.aload_n 0, 1)) := by decide +kernel
def dX11_tick_29 := edX11_tick_29.1
def dX11_tick_30 := edX11_tick_29.2.1
def dX11_tick_31 := edX11_tick_29.2.2.1
def dX11_tick_32 := edX11_tick_29.2.2.2.1
def dX11_tick_35 := edX11_tick_29.2.2.2.2.1
def dX11_tick_36 := edX11_tick_29.2.2.2.2.2.1
def dX11_tick_39 := edX11_tick_29.2.2.2.2.2.2.1
def dX11_tick_40 := edX11_tick_29.2.2.2.2.2.2.2.1
def dX11_tick_43 := edX11_tick_29.2.2.2.2.2.2.2.2.1
def dX11_tick_44 := edX11_tick_29.2.2.2.2.2.2.2.2.2.1
def dX11_tick_47 := edX11_tick_29.2.2.2.2.2.2.2.2.2.2.1
def dX11_tick_50 := edX11_tick_29.2.2.2.2.2.2.2.2.2.2.2.1
def dX11_tick_51 := edX11_tick_29.2.2.2.2.2.2.2.2.2.2.2.2.1
def dX11_tick_54 := edX11_tick_29.2.2.2.2.2.2.2.2.2.2.2.2.2.1
def dX11_tick_55 := edX11_tick_29.2.2.2.2.2.2.2.2.2.2.2.2.2.2.1
def dX11_tick_58 := edX11_tick_29.2.2.2.2.2.2.2.2.2.2.2.2.2.2.2
theorem edX11_tick_59 : (decode cX11_tick 59 = .ok (.getfield 21, 3)) ∧ (decode cX11_tick 62 = .ok (.aload_n 0, 1)) ∧ (decode cX11_tick 63 = .ok (.getfield 12, 3)) ∧ (decode cX11_tick 66 = .ok (.getfield 103, 3)) ∧ (decode cX11_tick 69 = .ok (.invokevirtual 204, 3)) ∧ (decode cX11_tick 72 = .ok (.iinc 2 1, 3)) ∧ (decode cX11_tick 75 = .ok (.goto (-45), 3)) ∧ (decode cX11_tick 78 = .ok (.aload_n 0, 1)) ∧ (decode cX11_tick 79 = .ok (.dup, 1)) ∧ (decode cX11_tick 80 = .ok (.getfield 197, 3)) ∧ (decode cX11_tick 83 = .ok (.iload_n 1, 1)) ∧ (decode cX11_tick 84 = .ok (.iadd, 1)) ∧ (decode cX11_tick 85 = .ok (.putfield 197, 3)) ∧ (decode cX11_tick 88 = .ok (.aload_n 0, 1)) ∧ (decode cX11_tick 89 = .ok (.aload_n 0, 1)) ∧ (decode cX11_tick 90 = .ok (.getfield 208, 3)) := by decide +kernel
def dX11_tick_59 := edX11_tick_59.1
def dX11_tick_62 := edX11_tick_59.2.1
def dX11_tick_63 := edX11_tick_59.2.2.1
def dX11_tick_66 := edX11_tick_59.2.2.2.1
def dX11_tick_69 := edX11_tick_59.2.2.2.2.1
def dX11_tick_72 := edX11_tick_59.2.2.2.2.2.1
def dX11_tick_75 := edX11_tick_59.2.2.2.2.2.2.1
def dX11_tick_78 := edX11_tick_59.2.2.2.2.2.2.2.1
def dX11_tick_79 := edX11_tick_59.2.2.2.2.2.2.2.2.1
def dX11_tick_80 := edX11_tick_59.2.2.2.2.2.2.2.2.2.1
def dX11_tick_83 := edX11_tick_59.2.2.2.2.2.2.2.2.2.2.1
def dX11_tick_84 := edX11_tick_59.2.2.2.2.2.2.2.2.2.2.2.1
def dX11_tick_85 := edX11_tick_59.2.2.2.2.2.2.2.2.2.2.2.2.1
def dX11_tick_88 := edX11_tick_59.2.2.2.2.2.2.2.2.2.2.2.2.2.1
def dX11_tick_89 := edX11_tick_59.2.2.2.2.2.2.2.2.2.2.2.2.2.2.1
def dX11_tick_90 := edX11_tick_59.2.2.2.2.2.2.2.2.2.2.2.2.2.2.2
theorem edX11_tick_93 : (decode cX11_tick 93 = .ok (.ifCond .ne 7, 3)) ∧ (decode cX11_tick 96 = .ok (.iload_n 1, 1)) ∧ (decode cX11_tick 97 = .ok (.ifCond .le 7, 3)) ∧ (decode cX11_tick 100 = .ok (.iconst 1, 1)) ∧ (decode cX11_tick 101 = .ok (.goto 4, 3)) ∧ (decode cX11_tick 104 = .ok (.iconst 0, 1)) ∧ (decode cX11_tick 105 = .ok (.putfield 208, 3)) ∧ (decode cX11_tick 108 = .ok (.aload_n 0, 1)) ∧ (decode cX11_tick 109 = .ok (.getfield 197, 3)) ∧ (decode cX11_tick 112 = .ok (.ireturn, 1)) := by decide +kernel
def dX11_tick_93 := edX11_tick_93.1
def dX11_tick_96 := edX11_tick_93.2.1
def dX11_tick_97 := edX11_tick_93.2.2.1
def dX11_tick_100 := edX11_tick_93.2.2.2.1
def dX11_tick_101 := edX11_tick_93.2.2.2.2.1
def dX11_tick_104 := edX11_tick_93.2.2.2.2.2.1
def dX11_tick_105 := edX11_tick_93.2.2.2.2.2.2.1
def dX11_tick_108 := edX11_tick_93.2.2.2.2.2.2.2.1
def dX11_tick_109 := edX11_tick_93.2.2.2.2.2.2.2.2.1
def dX11_tick_112 := edX11_tick_93.2.2.2.2.2.2.2.2.2
set_option maxRecDepth 100000 in
theorem ggX11_gauge_X11_within : GoodIn wsX11_gauge wsX11_within := goodIn_s _ [] [10] (by decide +kernel) rfl (by decide +kernel)
set_option maxRecDepth 20000 in
theorem gX11_gauge_X11_within : GoodIn wsX11_gauge (va_wsS RX11 73 yX11_within wsX11_within) := goodIn_app (goodIn_of _ (by decide +kernel)) ggX11_gauge_X11_within
theorem edX11_gauge_0 : (decode cX11_gauge 0 = .ok (.iload_n 1, 1)) ∧ (decode cX11_gauge 1 = .ok (.iconst 0, 1)) ∧ (decode cX11_gauge 2 = .ok (.iconst 3, 1)) ∧ (decode cX11_gauge 3 = .ok (.invokestatic 73, 3)) ∧ (decode cX11_gauge 6 = .ok (.ifCond .ne 6, 3)) ∧ (decode cX11_gauge 9 = .ok (.bipush (-2), 2)) ∧ (decode cX11_gauge 11 = .ok (.ireturn, 1)) ∧ (decode cX11_gauge 12 = .ok (.aload_n 0, 1)) ∧ (decode cX11_gauge 13 = .ok (.getfield 208, 3)) ∧ (decode cX11_gauge 16 = .ok (.ifCond .ne 6, 3)) ∧ (decode cX11_gauge 19 = .ok (.bipush (-3), 2)) ∧ (decode cX11_gauge 21 = .ok (.ireturn, 1)) ∧ (decode cX11_gauge 22 = .ok (.iload_n 1, 1)) ∧ (decode cX11_gauge 23 = .ok (.tableswitch 49 0 2 #[25, 33, 41], 25)) ∧ (decode cX11_gauge 48 = .ok (.aload_n 0, 1)) ∧ (decode cX11_gauge 49 = .ok (.getfield 28, 3)) := by decide +kernel
def dX11_gauge_0 := edX11_gauge_0.1
def dX11_gauge_1 := edX11_gauge_0.2.1
def dX11_gauge_2 := edX11_gauge_0.2.2.1
def dX11_gauge_3 := edX11_gauge_0.2.2.2.1
def dX11_gauge_6 := edX11_gauge_0.2.2.2.2.1
def dX11_gauge_9 := edX11_gauge_0.2.2.2.2.2.1
def dX11_gauge_11 := edX11_gauge_0.2.2.2.2.2.2.1
def dX11_gauge_12 := edX11_gauge_0.2.2.2.2.2.2.2.1
def dX11_gauge_13 := edX11_gauge_0.2.2.2.2.2.2.2.2.1
def dX11_gauge_16 := edX11_gauge_0.2.2.2.2.2.2.2.2.2.1
def dX11_gauge_19 := edX11_gauge_0.2.2.2.2.2.2.2.2.2.2.1
def dX11_gauge_21 := edX11_gauge_0.2.2.2.2.2.2.2.2.2.2.2.1
def dX11_gauge_22 := edX11_gauge_0.2.2.2.2.2.2.2.2.2.2.2.2.1
def dX11_gauge_23 := edX11_gauge_0.2.2.2.2.2.2.2.2.2.2.2.2.2.1
def dX11_gauge_48 := edX11_gauge_0.2.2.2.2.2.2.2.2.2.2.2.2.2.2.1
def dX11_gauge_49 := edX11_gauge_0.2.2.2.2.2.2.2.2.2.2.2.2.2.2.2
theorem edX11_gauge_52 : (decode cX11_gauge 52 = .ok (.getfield 212, 3)) ∧ (decode cX11_gauge 55 = .ok (.ireturn, 1)) ∧ (decode cX11_gauge 56 = .ok (.aload_n 0, 1)) ∧ (decode cX11_gauge 57 = .ok (.getfield 28, 3)) ∧ (decode cX11_gauge 60 = .ok (.getfield 215, 3)) ∧ (decode cX11_gauge 63 = .ok (.ireturn, 1)) ∧ (decode cX11_gauge 64 = .ok (.aload_n 0, 1)) ∧ (decode cX11_gauge 65 = .ok (.getfield 28, 3)) ∧ (decode cX11_gauge 68 = .ok (.getfield 218, 3)) ∧ (decode cX11_gauge 71 = .ok (.ireturn, 1)) ∧ (decode cX11_gauge 72 = .ok (.aload_n 0, 1)) ∧ (decode cX11_gauge 73 = .ok (.getfield 28, 3)) ∧ (decode cX11_gauge 76 = .ok (.getfield 221, 3)) ∧ (decode cX11_gauge 79 = .ok (.ireturn, 1)) := by decide +kernel
def dX11_gauge_52 := edX11_gauge_52.1
def dX11_gauge_55 := edX11_gauge_52.2.1
def dX11_gauge_56 := edX11_gauge_52.2.2.1
def dX11_gauge_57 := edX11_gauge_52.2.2.2.1
def dX11_gauge_60 := edX11_gauge_52.2.2.2.2.1
def dX11_gauge_63 := edX11_gauge_52.2.2.2.2.2.1
def dX11_gauge_64 := edX11_gauge_52.2.2.2.2.2.2.1
def dX11_gauge_65 := edX11_gauge_52.2.2.2.2.2.2.2.1
def dX11_gauge_68 := edX11_gauge_52.2.2.2.2.2.2.2.2.1
def dX11_gauge_71 := edX11_gauge_52.2.2.2.2.2.2.2.2.2.1
def dX11_gauge_72 := edX11_gauge_52.2.2.2.2.2.2.2.2.2.2.1
def dX11_gauge_73 := edX11_gauge_52.2.2.2.2.2.2.2.2.2.2.2.1
def dX11_gauge_76 := edX11_gauge_52.2.2.2.2.2.2.2.2.2.2.2.2.1
def dX11_gauge_79 := edX11_gauge_52.2.2.2.2.2.2.2.2.2.2.2.2.2
set_option maxRecDepth 100000 in
theorem ggX11_mover_X11_within : GoodIn wsX11_mover wsX11_within := goodIn_s _ [] [7] (by decide +kernel) rfl (by decide +kernel)
set_option maxRecDepth 20000 in
theorem gX11_mover_X11_within : GoodIn wsX11_mover (va_wsS RX11 73 yX11_within wsX11_within) := goodIn_app (goodIn_of _ (by decide +kernel)) ggX11_mover_X11_within
set_option maxRecDepth 100000 in
theorem ggX11_mover_X11_get : GoodIn wsX11_mover wsX11_get := goodIn_s _ [] [10] (by decide +kernel) rfl (by decide +kernel)
set_option maxRecDepth 20000 in
theorem gX11_mover_X11_get : GoodIn wsX11_mover (va_wsS RX11 181 yX11_get wsX11_get) := goodIn_app (goodIn_of _ (by decide +kernel)) ggX11_mover_X11_get
theorem edX11_mover_0 : (decode cX11_mover 0 = .ok (.iload_n 1, 1)) ∧ (decode cX11_mover 1 = .ok (.iconst 0, 1)) ∧ (decode cX11_mover 2 = .ok (.aload_n 0, 1)) ∧ (decode cX11_mover 3 = .ok (.getfield 28, 3)) ∧ (decode cX11_mover 6 = .ok (.getfield 221, 3)) ∧ (decode cX11_mover 9 = .ok (.iconst 1, 1)) ∧ (decode cX11_mover 10 = .ok (.isub, 1)) ∧ (decode cX11_mover 11 = .ok (.invokestatic 73, 3)) ∧ (decode cX11_mover 14 = .ok (.ifCond .eq 17, 3)) ∧ (decode cX11_mover 17 = .ok (.aload_n 0, 1)) ∧ (decode cX11_mover 18 = .ok (.getfield 28, 3)) ∧ (decode cX11_mover 21 = .ok (.getfield 224, 3)) ∧ (decode cX11_mover 24 = .ok (.iload_n 1, 1)) ∧ (decode cX11_mover 25 = .ok (.invokestatic 181, 3)) ∧ (decode cX11_mover 28 = .ok (.goto 4, 3)) ∧ (decode cX11_mover 31 = .ok (.iconst (-1), 1)) := by decide +kernel
def dX11_mover_0 := edX11_mover_0.1
def dX11_mover_1 := edX11_mover_0.2.1
def dX11_mover_2 := edX11_mover_0.2.2.1
def dX11_mover_3 := edX11_mover_0.2.2.2.1
def dX11_mover_6 := edX11_mover_0.2.2.2.2.1
def dX11_mover_9 := edX11_mover_0.2.2.2.2.2.1
def dX11_mover_10 := edX11_mover_0.2.2.2.2.2.2.1
def dX11_mover_11 := edX11_mover_0.2.2.2.2.2.2.2.1
def dX11_mover_14 := edX11_mover_0.2.2.2.2.2.2.2.2.1
def dX11_mover_17 := edX11_mover_0.2.2.2.2.2.2.2.2.2.1
def dX11_mover_18 := edX11_mover_0.2.2.2.2.2.2.2.2.2.2.1
def dX11_mover_21 := edX11_mover_0.2.2.2.2.2.2.2.2.2.2.2.1
def dX11_mover_24 := edX11_mover_0.2.2.2.2.2.2.2.2.2.2.2.2.1
def dX11_mover_25 := edX11_mover_0.2.2.2.2.2.2.2.2.2.2.2.2.2.1
def dX11_mover_28 := edX11_mover_0.2.2.2.2.2.2.2.2.2.2.2.2.2.2.1
def dX11_mover_31 := edX11_mover_0.2.2.2.2.2.2.2.2.2.2.2.2.2.2.2
theorem dX11_mover_32 : decode cX11_mover 32 = .ok (.ireturn, 1) := by decide +kernel
set_option maxRecDepth 100000 in
theorem ggX11_sum_X8_pressure : GoodIn wsX11_sum wsX8_pressure := goodIn_ca (b := wsX80) (goodIn_s _ [14, 15, 16] [13] (by decide +kernel) rfl (by decide +kernel)) (goodIn_sub (fun w h => List.mem_cons_of_mem _ (List.mem_append_right _ h)) gs_wsX80)
set_option maxRecDepth 20000 in
theorem gX11_sum_X8_pressure : GoodIn wsX11_sum (wsV RX11 237 RX8 yX8_pressure wsX8_pressure) := goodIn_app (goodIn_of _ (by decide +kernel)) ggX11_sum_X8_pressure
theorem edX11_sum_0 : (decode cX11_sum 0 = .ok (.iload_n 1, 1)) ∧ (decode cX11_sum 1 = .ok (.tableswitch 83 0 4 #[35, 43, 51, 59, 71], 35)) ∧ (decode cX11_sum 36 = .ok (.aload_n 0, 1)) ∧ (decode cX11_sum 37 = .ok (.getfield 28, 3)) ∧ (decode cX11_sum 40 = .ok (.getfield 227, 3)) ∧ (decode cX11_sum 43 = .ok (.lreturn, 1)) ∧ (decode cX11_sum 44 = .ok (.aload_n 0, 1)) ∧ (decode cX11_sum 45 = .ok (.getfield 28, 3)) ∧ (decode cX11_sum 48 = .ok (.getfield 231, 3)) ∧ (decode cX11_sum 51 = .ok (.lreturn, 1)) ∧ (decode cX11_sum 52 = .ok (.aload_n 0, 1)) ∧ (decode cX11_sum 53 = .ok (.getfield 28, 3)) ∧ (decode cX11_sum 56 = .ok (.getfield 234, 3)) ∧ (decode cX11_sum 59 = .ok (.lreturn, 1)) ∧ (decode cX11_sum 60 = .ok (.aload_n 0, 1)) ∧ (decode cX11_sum 61 = .ok (.getfield 21, 3)) := by decide +kernel
def dX11_sum_0 := edX11_sum_0.1
def dX11_sum_1 := edX11_sum_0.2.1
def dX11_sum_36 := edX11_sum_0.2.2.1
def dX11_sum_37 := edX11_sum_0.2.2.2.1
def dX11_sum_40 := edX11_sum_0.2.2.2.2.1
def dX11_sum_43 := edX11_sum_0.2.2.2.2.2.1
def dX11_sum_44 := edX11_sum_0.2.2.2.2.2.2.1
def dX11_sum_45 := edX11_sum_0.2.2.2.2.2.2.2.1
def dX11_sum_48 := edX11_sum_0.2.2.2.2.2.2.2.2.1
def dX11_sum_51 := edX11_sum_0.2.2.2.2.2.2.2.2.2.1
def dX11_sum_52 := edX11_sum_0.2.2.2.2.2.2.2.2.2.2.1
def dX11_sum_53 := edX11_sum_0.2.2.2.2.2.2.2.2.2.2.2.1
def dX11_sum_56 := edX11_sum_0.2.2.2.2.2.2.2.2.2.2.2.2.1
def dX11_sum_59 := edX11_sum_0.2.2.2.2.2.2.2.2.2.2.2.2.2.1
def dX11_sum_60 := edX11_sum_0.2.2.2.2.2.2.2.2.2.2.2.2.2.2.1
def dX11_sum_61 := edX11_sum_0.2.2.2.2.2.2.2.2.2.2.2.2.2.2.2
theorem edX11_sum_64 : (decode cX11_sum 64 = .ok (.getfield 155, 3)) ∧ (decode cX11_sum 67 = .ok (.getfield 159, 3)) ∧ (decode cX11_sum 70 = .ok (.i2l, 1)) ∧ (decode cX11_sum 71 = .ok (.lreturn, 1)) ∧ (decode cX11_sum 72 = .ok (.aload_n 0, 1)) ∧ (decode cX11_sum 73 = .ok (.getfield 21, 3)) ∧ (decode cX11_sum 76 = .ok (.getfield 155, 3)) ∧ (decode cX11_sum 79 = .ok (.invokevirtual 237, 3)) ∧ (decode cX11_sum 82 = .ok (.i2l, 1)) ∧ (decode cX11_sum 83 = .ok (.lreturn, 1)) ∧ (decode cX11_sum 84 = .ok (.ldc2_w 239, 3)) ∧ (decode cX11_sum 87 = .ok (.lreturn, 1)) := by decide +kernel
def dX11_sum_64 := edX11_sum_64.1
def dX11_sum_67 := edX11_sum_64.2.1
def dX11_sum_70 := edX11_sum_64.2.2.1
def dX11_sum_71 := edX11_sum_64.2.2.2.1
def dX11_sum_72 := edX11_sum_64.2.2.2.2.1
def dX11_sum_73 := edX11_sum_64.2.2.2.2.2.1
def dX11_sum_76 := edX11_sum_64.2.2.2.2.2.2.1
def dX11_sum_79 := edX11_sum_64.2.2.2.2.2.2.2.1
def dX11_sum_82 := edX11_sum_64.2.2.2.2.2.2.2.2.1
def dX11_sum_83 := edX11_sum_64.2.2.2.2.2.2.2.2.2.1
def dX11_sum_84 := edX11_sum_64.2.2.2.2.2.2.2.2.2.2.1
def dX11_sum_87 := edX11_sum_64.2.2.2.2.2.2.2.2.2.2.2
set_option maxRecDepth 100000 in
theorem ggX11_order_X4_at : GoodIn wsX11_order wsX4_at := goodIn_ca (b := wsX40) (goodIn_s _ [9, 10] [8] (by decide +kernel) rfl (by decide +kernel)) (goodIn_sub (fun w h => List.mem_cons_of_mem _ (List.mem_append_right _ h)) gs_wsX40)
set_option maxRecDepth 20000 in
theorem gX11_order_X4_at : GoodIn wsX11_order (wsV RX11 90 RX4 yX4_at wsX4_at) := goodIn_app (goodIn_of _ (by decide +kernel)) ggX11_order_X4_at
set_option maxRecDepth 100000 in
theorem ggX11_order_X11_within : GoodIn wsX11_order wsX11_within := goodIn_s _ [] [14] (by decide +kernel) rfl (by decide +kernel)
set_option maxRecDepth 20000 in
theorem gX11_order_X11_within : GoodIn wsX11_order (va_wsS RX11 73 yX11_within wsX11_within) := goodIn_app (goodIn_of _ (by decide +kernel)) ggX11_order_X11_within
set_option maxRecDepth 100000 in
theorem ggX11_order_X3_add : GoodIn wsX11_order wsX3_add := goodIn_ca (b := wsX30) (goodIn_s _ [20, 21, 22, 23, 24, 25, 13] [19, 26] (by decide +kernel) rfl (by decide +kernel)) (goodIn_sub (fun w h => List.mem_cons_of_mem _ (List.mem_append_left _ (List.mem_append_right _ h))) gs_wsX30)
set_option maxRecDepth 20000 in
theorem gX11_order_X3_add : GoodIn wsX11_order (wsV RX11 241 RX3 yX3_add wsX3_add) := goodIn_app (goodIn_of _ (by decide +kernel)) ggX11_order_X3_add
theorem edX11_order_0 : (decode cX11_order 0 = .ok (.aload_n 0, 1)) ∧ (decode cX11_order 1 = .ok (.getfield 12, 3)) ∧ (decode cX11_order 4 = .ok (.iload_n 1, 1)) ∧ (decode cX11_order 5 = .ok (.invokevirtual 90, 3)) ∧ (decode cX11_order 8 = .ok (.ifnull 14, 3)) ∧ (decode cX11_order 11 = .ok (.aload_n 0, 1)) ∧ (decode cX11_order 12 = .ok (.getfield 12, 3)) ∧ (decode cX11_order 15 = .ok (.iload_n 3, 1)) ∧ (decode cX11_order 16 = .ok (.invokevirtual 90, 3)) ∧ (decode cX11_order 19 = .ok (.ifnonnull 5, 3)) ∧ (decode cX11_order 22 = .ok (.iconst (-1), 1)) ∧ (decode cX11_order 23 = .ok (.ireturn, 1)) ∧ (decode cX11_order 24 = .ok (.iload_n 2, 1)) ∧ (decode cX11_order 25 = .ok (.iconst 0, 1)) ∧ (decode cX11_order 26 = .ok (.iconst 2, 1)) ∧ (decode cX11_order 27 = .ok (.invokestatic 73, 3)) := by decide +kernel
def dX11_order_0 := edX11_order_0.1
def dX11_order_1 := edX11_order_0.2.1
def dX11_order_4 := edX11_order_0.2.2.1
def dX11_order_5 := edX11_order_0.2.2.2.1
def dX11_order_8 := edX11_order_0.2.2.2.2.1
def dX11_order_11 := edX11_order_0.2.2.2.2.2.1
def dX11_order_12 := edX11_order_0.2.2.2.2.2.2.1
def dX11_order_15 := edX11_order_0.2.2.2.2.2.2.2.1
def dX11_order_16 := edX11_order_0.2.2.2.2.2.2.2.2.1
def dX11_order_19 := edX11_order_0.2.2.2.2.2.2.2.2.2.1
def dX11_order_22 := edX11_order_0.2.2.2.2.2.2.2.2.2.2.1
def dX11_order_23 := edX11_order_0.2.2.2.2.2.2.2.2.2.2.2.1
def dX11_order_24 := edX11_order_0.2.2.2.2.2.2.2.2.2.2.2.2.1
def dX11_order_25 := edX11_order_0.2.2.2.2.2.2.2.2.2.2.2.2.2.1
def dX11_order_26 := edX11_order_0.2.2.2.2.2.2.2.2.2.2.2.2.2.2.1
def dX11_order_27 := edX11_order_0.2.2.2.2.2.2.2.2.2.2.2.2.2.2.2
theorem edX11_order_30 : (decode cX11_order 30 = .ok (.ifCond .eq 13, 3)) ∧ (decode cX11_order 33 = .ok (.iload 4, 2)) ∧ (decode cX11_order 35 = .ok (.iconst 0, 1)) ∧ (decode cX11_order 36 = .ok (.iconst 2, 1)) ∧ (decode cX11_order 37 = .ok (.invokestatic 73, 3)) ∧ (decode cX11_order 40 = .ok (.ifCond .ne 6, 3)) ∧ (decode cX11_order 43 = .ok (.bipush (-2), 2)) ∧ (decode cX11_order 45 = .ok (.ireturn, 1)) ∧ (decode cX11_order 46 = .ok (.aload_n 0, 1)) ∧ (decode cX11_order 47 = .ok (.getfield 35, 3)) ∧ (decode cX11_order 50 = .ok (.iload_n 1, 1)) ∧ (decode cX11_order 51 = .ok (.iload_n 2, 1)) ∧ (decode cX11_order 52 = .ok (.iload_n 3, 1)) ∧ (decode cX11_order 53 = .ok (.iload 4, 2)) ∧ (decode cX11_order 55 = .ok (.invokevirtual 241, 3)) ∧ (decode cX11_order 58 = .ok (.ifCond .eq 13, 3)) := by decide +kernel
def dX11_order_30 := edX11_order_30.1
def dX11_order_33 := edX11_order_30.2.1
def dX11_order_35 := edX11_order_30.2.2.1
def dX11_order_36 := edX11_order_30.2.2.2.1
def dX11_order_37 := edX11_order_30.2.2.2.2.1
def dX11_order_40 := edX11_order_30.2.2.2.2.2.1
def dX11_order_43 := edX11_order_30.2.2.2.2.2.2.1
def dX11_order_45 := edX11_order_30.2.2.2.2.2.2.2.1
def dX11_order_46 := edX11_order_30.2.2.2.2.2.2.2.2.1
def dX11_order_47 := edX11_order_30.2.2.2.2.2.2.2.2.2.1
def dX11_order_50 := edX11_order_30.2.2.2.2.2.2.2.2.2.2.1
def dX11_order_51 := edX11_order_30.2.2.2.2.2.2.2.2.2.2.2.1
def dX11_order_52 := edX11_order_30.2.2.2.2.2.2.2.2.2.2.2.2.1
def dX11_order_53 := edX11_order_30.2.2.2.2.2.2.2.2.2.2.2.2.2.1
def dX11_order_55 := edX11_order_30.2.2.2.2.2.2.2.2.2.2.2.2.2.2.1
def dX11_order_58 := edX11_order_30.2.2.2.2.2.2.2.2.2.2.2.2.2.2.2
theorem edX11_order_61 : (decode cX11_order 61 = .ok (.aload_n 0, 1)) ∧ (decode cX11_order 62 = .ok (.getfield 35, 3)) ∧ (decode cX11_order 65 = .ok (.getfield 244, 3)) ∧ (decode cX11_order 68 = .ok (.goto 5, 3)) ∧ (decode cX11_order 71 = .ok (.bipush (-4), 2)) ∧ (decode cX11_order 73 = .ok (.ireturn, 1)) := by decide +kernel
def dX11_order_61 := edX11_order_61.1
def dX11_order_62 := edX11_order_61.2.1
def dX11_order_65 := edX11_order_61.2.2.1
def dX11_order_68 := edX11_order_61.2.2.2.1
def dX11_order_71 := edX11_order_61.2.2.2.2.1
def dX11_order_73 := edX11_order_61.2.2.2.2.2
theorem edX11_waits_0 : (decode cX11_waits 0 = .ok (.aload_n 0, 1)) ∧ (decode cX11_waits 1 = .ok (.getfield 21, 3)) ∧ (decode cX11_waits 4 = .ok (.getfield 245, 3)) ∧ (decode cX11_waits 7 = .ok (.ireturn, 1)) := by decide +kernel
def dX11_waits_0 := edX11_waits_0.1
def dX11_waits_1 := edX11_waits_0.2.1
def dX11_waits_4 := edX11_waits_0.2.2.1
def dX11_waits_7 := edX11_waits_0.2.2.2
set_option maxRecDepth 100000 in
theorem ggX11_start_X7_become : GoodIn wsX11_start wsX7_become := goodIn_ca (b := wsX80) (goodIn_ca (b := wsX70) (goodIn_s _ [10, 11, 12, 13, 14, 15, 16, 18, 20, 21, 22, 23, 25, 26, 27, 28] [9, 17, 19, 24] (by decide +kernel) rfl (by decide +kernel)) (goodIn_sub (fun w h => List.mem_cons_of_mem _ (List.mem_append_left _ (List.mem_append_right _ h))) gs_wsX70)) (goodIn_sub (fun w h => List.mem_cons_of_mem _ (List.mem_append_right _ h)) gs_wsX80)
set_option maxRecDepth 20000 in
theorem gX11_start_X7_become : GoodIn wsX11_start (wsV RX11 248 RX7 yX7_become wsX7_become) := goodIn_app (goodIn_of _ (by decide +kernel)) ggX11_start_X7_become
theorem edX11_start_0 : (decode cX11_start 0 = .ok (.aload_n 0, 1)) ∧ (decode cX11_start 1 = .ok (.getfield 39, 3)) ∧ (decode cX11_start 4 = .ok (.aload_n 0, 1)) ∧ (decode cX11_start 5 = .ok (.getfield 21, 3)) ∧ (decode cX11_start 8 = .ok (.invokevirtual 248, 3)) ∧ (decode cX11_start 11 = .ok (.aload_n 0, 1)) ∧ (decode cX11_start 12 = .ok (.iconst 1, 1)) ∧ (decode cX11_start 13 = .ok (.putfield 252, 3)) ∧ (decode cX11_start 16 = .ok (.aload_n 0, 1)) ∧ (decode cX11_start 17 = .ok (.iconst 0, 1)) ∧ (decode cX11_start 18 = .ok (.putfield 197, 3)) ∧ (decode cX11_start 21 = .ok (.iconst 1, 1)) ∧ (decode cX11_start 22 = .ok (.ireturn, 1)) := by decide +kernel
def dX11_start_0 := edX11_start_0.1
def dX11_start_1 := edX11_start_0.2.1
def dX11_start_4 := edX11_start_0.2.2.1
def dX11_start_5 := edX11_start_0.2.2.2.1
def dX11_start_8 := edX11_start_0.2.2.2.2.1
def dX11_start_11 := edX11_start_0.2.2.2.2.2.1
def dX11_start_12 := edX11_start_0.2.2.2.2.2.2.1
def dX11_start_13 := edX11_start_0.2.2.2.2.2.2.2.1
def dX11_start_16 := edX11_start_0.2.2.2.2.2.2.2.2.1
def dX11_start_17 := edX11_start_0.2.2.2.2.2.2.2.2.2.1
def dX11_start_18 := edX11_start_0.2.2.2.2.2.2.2.2.2.2.1
def dX11_start_21 := edX11_start_0.2.2.2.2.2.2.2.2.2.2.2.1
def dX11_start_22 := edX11_start_0.2.2.2.2.2.2.2.2.2.2.2.2
set_option maxRecDepth 100000 in
theorem ggX11_reading_X4_at : GoodIn wsX11_reading wsX4_at := goodIn_ca (b := wsX40) (goodIn_s _ [9, 10] [8] (by decide +kernel) rfl (by decide +kernel)) (goodIn_sub (fun w h => List.mem_cons_of_mem _ (List.mem_append_left _ (List.mem_append_left _ (List.mem_append_left _ (List.mem_append_right _ h))))) gs_wsX40)
set_option maxRecDepth 20000 in
theorem gX11_reading_X4_at : GoodIn wsX11_reading (wsV RX11 90 RX4 yX4_at wsX4_at) := goodIn_app (goodIn_of _ (by decide +kernel)) ggX11_reading_X4_at
set_option maxRecDepth 100000 in
theorem ggX11_reading_X11_within : GoodIn wsX11_reading wsX11_within := goodIn_s _ [] [14] (by decide +kernel) rfl (by decide +kernel)
set_option maxRecDepth 20000 in
theorem gX11_reading_X11_within : GoodIn wsX11_reading (va_wsS RX11 73 yX11_within wsX11_within) := goodIn_app (goodIn_of _ (by decide +kernel)) ggX11_reading_X11_within
set_option maxRecDepth 100000 in
theorem ggX11_reading_X0_room : GoodIn wsX11_reading wsX0_room := goodIn_ca (b := wsX100) (goodIn_ca (b := wsX20) (goodIn_ca (b := wsX00) (goodIn_s _ [20, 21] [19] (by decide +kernel) rfl (by decide +kernel)) (goodIn_sub (fun w h => List.mem_cons_of_mem _ (List.mem_append_left _ (List.mem_append_left _ (List.mem_append_right _ h)))) gs_wsX00)) (goodIn_sub (fun w h => List.mem_cons_of_mem _ (List.mem_append_left _ (List.mem_append_right _ h))) gs_wsX20)) (goodIn_sub (fun w h => List.mem_cons_of_mem _ (List.mem_append_right _ h)) gs_wsX100)
set_option maxRecDepth 20000 in
theorem gX11_reading_X0_room : GoodIn wsX11_reading (wsV RX11 145 RX0 yX0_room wsX0_room) := goodIn_app (goodIn_of _ (by decide +kernel)) ggX11_reading_X0_room
set_option maxRecDepth 20000 in
theorem gX11_reading_X0_room_u145X2 : GoodIn wsX11_reading (va_wsU RX11 145 RX2 "OilPush$Cylinder" ⟨"OilPush$Cylinder", "room", "()I"⟩ yX0_room wsX0_room) := goodIn_app (goodIn_of _ (by decide +kernel)) ggX11_reading_X0_room
set_option maxRecDepth 20000 in
theorem gX11_reading_X0_room_u145X10 : GoodIn wsX11_reading (va_wsU RX11 145 RX10 "OilPush$Cylinder" ⟨"OilPush$Cylinder", "room", "()I"⟩ yX0_room wsX0_room) := goodIn_app (goodIn_of _ (by decide +kernel)) ggX11_reading_X0_room
set_option maxRecDepth 100000 in
theorem ggX11_reading_X5_add : GoodIn wsX11_reading wsX5_add := goodIn_ca (b := wsX50) (goodIn_s _ [31, 32, 33, 34, 35, 13] [30, 36] (by decide +kernel) rfl (by decide +kernel)) (goodIn_sub (fun w h => List.mem_cons_of_mem _ (List.mem_append_left _ (List.mem_append_left _ (List.mem_append_left _ (List.mem_append_left _ (List.mem_append_right _ h)))))) gs_wsX50)
set_option maxRecDepth 20000 in
theorem gX11_reading_X5_add : GoodIn wsX11_reading (wsV RX11 255 RX5 yX5_add wsX5_add) := goodIn_app (goodIn_of _ (by decide +kernel)) ggX11_reading_X5_add
theorem edX11_reading_0 : (decode cX11_reading 0 = .ok (.aload_n 0, 1)) ∧ (decode cX11_reading 1 = .ok (.getfield 12, 3)) ∧ (decode cX11_reading 4 = .ok (.iload_n 2, 1)) ∧ (decode cX11_reading 5 = .ok (.invokevirtual 90, 3)) ∧ (decode cX11_reading 8 = .ok (.astore 4, 2)) ∧ (decode cX11_reading 10 = .ok (.aload 4, 2)) ∧ (decode cX11_reading 12 = .ok (.ifnonnull 5, 3)) ∧ (decode cX11_reading 15 = .ok (.iconst (-1), 1)) ∧ (decode cX11_reading 16 = .ok (.ireturn, 1)) ∧ (decode cX11_reading 17 = .ok (.iload_n 1, 1)) ∧ (decode cX11_reading 18 = .ok (.iconst 0, 1)) ∧ (decode cX11_reading 19 = .ok (.sipush 200, 3)) ∧ (decode cX11_reading 22 = .ok (.invokestatic 73, 3)) ∧ (decode cX11_reading 25 = .ok (.ifCond .eq 16, 3)) ∧ (decode cX11_reading 28 = .ok (.iload_n 3, 1)) ∧ (decode cX11_reading 29 = .ok (.iconst 0, 1)) := by decide +kernel
def dX11_reading_0 := edX11_reading_0.1
def dX11_reading_1 := edX11_reading_0.2.1
def dX11_reading_4 := edX11_reading_0.2.2.1
def dX11_reading_5 := edX11_reading_0.2.2.2.1
def dX11_reading_8 := edX11_reading_0.2.2.2.2.1
def dX11_reading_10 := edX11_reading_0.2.2.2.2.2.1
def dX11_reading_12 := edX11_reading_0.2.2.2.2.2.2.1
def dX11_reading_15 := edX11_reading_0.2.2.2.2.2.2.2.1
def dX11_reading_16 := edX11_reading_0.2.2.2.2.2.2.2.2.1
def dX11_reading_17 := edX11_reading_0.2.2.2.2.2.2.2.2.2.1
def dX11_reading_18 := edX11_reading_0.2.2.2.2.2.2.2.2.2.2.1
def dX11_reading_19 := edX11_reading_0.2.2.2.2.2.2.2.2.2.2.2.1
def dX11_reading_22 := edX11_reading_0.2.2.2.2.2.2.2.2.2.2.2.2.1
def dX11_reading_25 := edX11_reading_0.2.2.2.2.2.2.2.2.2.2.2.2.2.1
def dX11_reading_28 := edX11_reading_0.2.2.2.2.2.2.2.2.2.2.2.2.2.2.1
def dX11_reading_29 := edX11_reading_0.2.2.2.2.2.2.2.2.2.2.2.2.2.2.2
theorem edX11_reading_30 : (decode cX11_reading 30 = .ok (.aload 4, 2)) ∧ (decode cX11_reading 32 = .ok (.invokevirtual 145, 3)) ∧ (decode cX11_reading 35 = .ok (.invokestatic 73, 3)) ∧ (decode cX11_reading 38 = .ok (.ifCond .ne 6, 3)) ∧ (decode cX11_reading 41 = .ok (.bipush (-2), 2)) ∧ (decode cX11_reading 43 = .ok (.ireturn, 1)) ∧ (decode cX11_reading 44 = .ok (.aload_n 0, 1)) ∧ (decode cX11_reading 45 = .ok (.getfield 55, 3)) ∧ (decode cX11_reading 48 = .ok (.iload_n 1, 1)) ∧ (decode cX11_reading 49 = .ok (.iload_n 2, 1)) ∧ (decode cX11_reading 50 = .ok (.iload_n 3, 1)) ∧ (decode cX11_reading 51 = .ok (.invokevirtual 255, 3)) ∧ (decode cX11_reading 54 = .ok (.ifCond .eq 13, 3)) ∧ (decode cX11_reading 57 = .ok (.aload_n 0, 1)) ∧ (decode cX11_reading 58 = .ok (.getfield 55, 3)) ∧ (decode cX11_reading 61 = .ok (.getfield 256, 3)) := by decide +kernel
def dX11_reading_30 := edX11_reading_30.1
def dX11_reading_32 := edX11_reading_30.2.1
def dX11_reading_35 := edX11_reading_30.2.2.1
def dX11_reading_38 := edX11_reading_30.2.2.2.1
def dX11_reading_41 := edX11_reading_30.2.2.2.2.1
def dX11_reading_43 := edX11_reading_30.2.2.2.2.2.1
def dX11_reading_44 := edX11_reading_30.2.2.2.2.2.2.1
def dX11_reading_45 := edX11_reading_30.2.2.2.2.2.2.2.1
def dX11_reading_48 := edX11_reading_30.2.2.2.2.2.2.2.2.1
def dX11_reading_49 := edX11_reading_30.2.2.2.2.2.2.2.2.2.1
def dX11_reading_50 := edX11_reading_30.2.2.2.2.2.2.2.2.2.2.1
def dX11_reading_51 := edX11_reading_30.2.2.2.2.2.2.2.2.2.2.2.1
def dX11_reading_54 := edX11_reading_30.2.2.2.2.2.2.2.2.2.2.2.2.1
def dX11_reading_57 := edX11_reading_30.2.2.2.2.2.2.2.2.2.2.2.2.2.1
def dX11_reading_58 := edX11_reading_30.2.2.2.2.2.2.2.2.2.2.2.2.2.2.1
def dX11_reading_61 := edX11_reading_30.2.2.2.2.2.2.2.2.2.2.2.2.2.2.2
theorem edX11_reading_64 : (decode cX11_reading 64 = .ok (.goto 5, 3)) ∧ (decode cX11_reading 67 = .ok (.bipush (-4), 2)) ∧ (decode cX11_reading 69 = .ok (.ireturn, 1)) := by decide +kernel
def dX11_reading_64 := edX11_reading_64.1
def dX11_reading_67 := edX11_reading_64.2.1
def dX11_reading_69 := edX11_reading_64.2.2
theorem edX11_forget_0 : (decode cX11_forget 0 = .ok (.aload_n 0, 1)) ∧ (decode cX11_forget 1 = .ok (.getfield 55, 3)) ∧ (decode cX11_forget 4 = .ok (.getfield 256, 3)) ∧ (decode cX11_forget 7 = .ok (.istore_n 1, 1)) ∧ (decode cX11_forget 8 = .ok (.aload_n 0, 1)) ∧ (decode cX11_forget 9 = .ok (.getfield 55, 3)) ∧ (decode cX11_forget 12 = .ok (.iconst 0, 1)) ∧ (decode cX11_forget 13 = .ok (.putfield 256, 3)) ∧ (decode cX11_forget 16 = .ok (.iload_n 1, 1)) ∧ (decode cX11_forget 17 = .ok (.ireturn, 1)) := by decide +kernel
def dX11_forget_0 := edX11_forget_0.1
def dX11_forget_1 := edX11_forget_0.2.1
def dX11_forget_4 := edX11_forget_0.2.2.1
def dX11_forget_7 := edX11_forget_0.2.2.2.1
def dX11_forget_8 := edX11_forget_0.2.2.2.2.1
def dX11_forget_9 := edX11_forget_0.2.2.2.2.2.1
def dX11_forget_12 := edX11_forget_0.2.2.2.2.2.2.1
def dX11_forget_13 := edX11_forget_0.2.2.2.2.2.2.2.1
def dX11_forget_16 := edX11_forget_0.2.2.2.2.2.2.2.2.1
def dX11_forget_17 := edX11_forget_0.2.2.2.2.2.2.2.2.2
set_option maxRecDepth 100000 in
theorem ggX11_leak_X5_latest : GoodIn wsX11_leak wsX5_latest := goodIn_ca (b := wsX50) (goodIn_s _ [11, 12, 13, 14, 15, 17, 18] [10, 16, 19] (by decide +kernel) rfl (by decide +kernel)) (goodIn_sub (fun w h => List.mem_cons_of_mem _ (List.mem_append_left _ (List.mem_append_left _ (List.mem_append_left _ (List.mem_append_left _ (List.mem_append_left _ (List.mem_append_left _ (List.mem_append_left _ (List.mem_append_right _ h))))))))) gs_wsX50)
set_option maxRecDepth 20000 in
theorem gX11_leak_X5_latest : GoodIn wsX11_leak (wsV RX11 257 RX5 yX5_latest wsX5_latest) := goodIn_app (goodIn_of _ (by decide +kernel)) ggX11_leak_X5_latest
set_option maxRecDepth 100000 in
theorem ggX11_leak_X4_isHeld : GoodIn wsX11_leak wsX4_isHeld := goodIn_ca (b := wsX40) (goodIn_s _ [25, 26, 27, 28, 23, 30, 31] [24, 29] (by decide +kernel) rfl (by decide +kernel)) (goodIn_sub (fun w h => List.mem_cons_of_mem _ (List.mem_append_left _ (List.mem_append_left _ (List.mem_append_left _ (List.mem_append_left _ (List.mem_append_left _ (List.mem_append_left _ (List.mem_append_left _ (List.mem_append_left _ (List.mem_append_right _ h)))))))))) gs_wsX40)
set_option maxRecDepth 20000 in
theorem gX11_leak_X4_isHeld : GoodIn wsX11_leak (wsV RX11 260 RX4 yX4_isHeld wsX4_isHeld) := goodIn_app (goodIn_of _ (by decide +kernel)) ggX11_leak_X4_isHeld
set_option maxRecDepth 100000 in
theorem ggX11_leak_X11_wouldTellAll : GoodIn wsX11_leak wsX11_wouldTellAll := goodIn_ca (b := wsX10) (goodIn_ca (b := wsX40) (goodIn_ca (b := wsX100) (goodIn_ca (b := wsX20) (goodIn_ca (b := wsX00) (goodIn_ca (b := wsX30) (goodIn_ca (b := wsX50) (goodIn_ca (b := wsX80) (goodIn_ca (b := wsX70) (goodIn_ca (b := wsX110) (goodIn_s _ [36, 37, 38, 3, 39, 4, 40, 41, 42, 43, 44, 46, 47, 48, 49, 50, 17, 18, 51, 53, 54, 55, 56, 58, 59, 60, 61, 62, 6, 7, 8, 9, 11, 12, 13, 14, 15, 63, 64, 65, 67, 68, 69, 70, 71, 72, 73, 75, 76, 77, 78, 79, 80, 81, 82, 83, 84, 27, 28, 23, 30, 31, 85, 86, 87, 88, 90, 91, 92, 94, 95, 96, 97, 98, 99, 100, 101, 102, 103, 104, 105, 106, 107, 109, 110, 111, 112, 113, 114, 115, 116, 118, 119, 120, 121, 122, 123, 124, 125, 127, 128, 129, 130, 131, 133, 134, 135, 136, 137, 138, 139, 141, 142, 143, 144, 145, 146, 147, 148, 149, 150, 152, 153, 154, 155, 156, 157, 158, 160, 161, 162, 163, 164, 165, 167, 168, 169, 170, 171, 172, 173, 175, 176, 177, 178, 179, 180, 181, 182, 183, 185, 186, 187, 188, 190, 191, 192, 193, 194, 196, 197, 198, 200, 201, 202, 204, 205, 206, 207, 208, 209] [35, 45, 19, 52, 57, 10, 16, 66, 74, 29, 89, 93, 108, 117, 126, 132, 140, 151, 159, 166, 174, 184, 189, 195, 199, 203, 210] (by decide +kernel) rfl (by decide +kernel)) (goodIn_sub (fun w h => List.mem_cons_of_mem _ (List.mem_append_left _ (List.mem_append_left _ (List.mem_append_left _ (List.mem_append_left _ (List.mem_append_left _ (List.mem_append_left _ (List.mem_append_left _ (List.mem_append_left _ (List.mem_append_left _ (List.mem_append_right _ h))))))))))) gs_wsX110)) (goodIn_sub (fun w h => List.mem_cons_of_mem _ (List.mem_append_left _ (List.mem_append_left _ (List.mem_append_left _ (List.mem_append_left _ (List.mem_append_left _ (List.mem_append_left _ (List.mem_append_right _ h)))))))) gs_wsX70)) (goodIn_sub (fun w h => List.mem_cons_of_mem _ (List.mem_append_left _ (List.mem_append_left _ (List.mem_append_left _ (List.mem_append_left _ (List.mem_append_left _ (List.mem_append_right _ h))))))) gs_wsX80)) (goodIn_sub (fun w h => List.mem_cons_of_mem _ (List.mem_append_left _ (List.mem_append_left _ (List.mem_append_left _ (List.mem_append_left _ (List.mem_append_left _ (List.mem_append_left _ (List.mem_append_left _ (List.mem_append_right _ h))))))))) gs_wsX50)) (goodIn_sub (fun w h => List.mem_cons_of_mem _ (List.mem_append_left _ (List.mem_append_left _ (List.mem_append_left _ (List.mem_append_left _ (List.mem_append_right _ h)))))) gs_wsX30)) (goodIn_sub (fun w h => List.mem_cons_of_mem _ (List.mem_append_left _ (List.mem_append_left _ (List.mem_append_left _ (List.mem_append_right _ h))))) gs_wsX00)) (goodIn_sub (fun w h => List.mem_cons_of_mem _ (List.mem_append_left _ (List.mem_append_left _ (List.mem_append_right _ h)))) gs_wsX20)) (goodIn_sub (fun w h => List.mem_cons_of_mem _ (List.mem_append_left _ (List.mem_append_right _ h))) gs_wsX100)) (goodIn_sub (fun w h => List.mem_cons_of_mem _ (List.mem_append_left _ (List.mem_append_left _ (List.mem_append_left _ (List.mem_append_left _ (List.mem_append_left _ (List.mem_append_left _ (List.mem_append_left _ (List.mem_append_left _ (List.mem_append_right _ h)))))))))) gs_wsX40)) (goodIn_sub (fun w h => List.mem_cons_of_mem _ (List.mem_append_right _ h)) gs_wsX10)
set_option maxRecDepth 20000 in
theorem gX11_leak_X11_wouldTellAll : GoodIn wsX11_leak (wsV RX11 263 RX11 yX11_wouldTellAll wsX11_wouldTellAll) := goodIn_app (goodIn_of _ (by decide +kernel)) ggX11_leak_X11_wouldTellAll
theorem edX11_leak_0 : (decode cX11_leak 0 = .ok (.iload_n 1, 1)) ∧ (decode cX11_leak 1 = .ok (.ifCond .eq 11, 3)) ∧ (decode cX11_leak 4 = .ok (.iload_n 1, 1)) ∧ (decode cX11_leak 5 = .ok (.iconst 1, 1)) ∧ (decode cX11_leak 6 = .ok (.if_icmp .eq 6, 3)) ∧ (decode cX11_leak 9 = .ok (.bipush (-2), 2)) ∧ (decode cX11_leak 11 = .ok (.ireturn, 1)) ∧ (decode cX11_leak 12 = .ok (.aload_n 0, 1)) ∧ (decode cX11_leak 13 = .ok (.getfield 252, 3)) ∧ (decode cX11_leak 16 = .ok (.ifCond .eq 27, 3)) ∧ (decode cX11_leak 19 = .ok (.aload_n 0, 1)) ∧ (decode cX11_leak 20 = .ok (.getfield 197, 3)) ∧ (decode cX11_leak 23 = .ok (.sipush 200, 3)) ∧ (decode cX11_leak 26 = .ok (.if_icmp .gt 17, 3)) ∧ (decode cX11_leak 29 = .ok (.aload_n 0, 1)) ∧ (decode cX11_leak 30 = .ok (.getfield 55, 3)) := by decide +kernel
def dX11_leak_0 := edX11_leak_0.1
def dX11_leak_1 := edX11_leak_0.2.1
def dX11_leak_4 := edX11_leak_0.2.2.1
def dX11_leak_5 := edX11_leak_0.2.2.2.1
def dX11_leak_6 := edX11_leak_0.2.2.2.2.1
def dX11_leak_9 := edX11_leak_0.2.2.2.2.2.1
def dX11_leak_11 := edX11_leak_0.2.2.2.2.2.2.1
def dX11_leak_12 := edX11_leak_0.2.2.2.2.2.2.2.1
def dX11_leak_13 := edX11_leak_0.2.2.2.2.2.2.2.2.1
def dX11_leak_16 := edX11_leak_0.2.2.2.2.2.2.2.2.2.1
def dX11_leak_19 := edX11_leak_0.2.2.2.2.2.2.2.2.2.2.1
def dX11_leak_20 := edX11_leak_0.2.2.2.2.2.2.2.2.2.2.2.1
def dX11_leak_23 := edX11_leak_0.2.2.2.2.2.2.2.2.2.2.2.2.1
def dX11_leak_26 := edX11_leak_0.2.2.2.2.2.2.2.2.2.2.2.2.2.1
def dX11_leak_29 := edX11_leak_0.2.2.2.2.2.2.2.2.2.2.2.2.2.2.1
def dX11_leak_30 := edX11_leak_0.2.2.2.2.2.2.2.2.2.2.2.2.2.2.2
theorem edX11_leak_33 : (decode cX11_leak 33 = .ok (.invokevirtual 257, 3)) ∧ (decode cX11_leak 36 = .ok (.aload_n 0, 1)) ∧ (decode cX11_leak 37 = .ok (.getfield 197, 3)) ∧ (decode cX11_leak 40 = .ok (.if_icmp .le 6, 3)) ∧ (decode cX11_leak 43 = .ok (.bipush (-3), 2)) ∧ (decode cX11_leak 45 = .ok (.ireturn, 1)) ∧ (decode cX11_leak 46 = .ok (.iconst 0, 1)) ∧ (decode cX11_leak 47 = .ok (.istore_n 2, 1)) ∧ (decode cX11_leak 48 = .ok (.iload_n 2, 1)) ∧ (decode cX11_leak 49 = .ok (.aload_n 0, 1)) ∧ (decode cX11_leak 50 = .ok (.getfield 12, 3)) ∧ (decode cX11_leak 53 = .ok (.getfield 87, 3)) ∧ (decode cX11_leak 56 = .ok (.if_icmp .ge 53, 3)) ∧ (decode cX11_leak 59 = .ok (.iconst 1, 1)) ∧ (decode cX11_leak 60 = .ok (.istore_n 3, 1)) ∧ (decode cX11_leak 61 = .ok (.aload_n 0, 1)) := by decide +kernel
def dX11_leak_33 := edX11_leak_33.1
def dX11_leak_36 := edX11_leak_33.2.1
def dX11_leak_37 := edX11_leak_33.2.2.1
def dX11_leak_40 := edX11_leak_33.2.2.2.1
def dX11_leak_43 := edX11_leak_33.2.2.2.2.1
def dX11_leak_45 := edX11_leak_33.2.2.2.2.2.1
def dX11_leak_46 := edX11_leak_33.2.2.2.2.2.2.1
def dX11_leak_47 := edX11_leak_33.2.2.2.2.2.2.2.1
def dX11_leak_48 := edX11_leak_33.2.2.2.2.2.2.2.2.1
def dX11_leak_49 := edX11_leak_33.2.2.2.2.2.2.2.2.2.1
def dX11_leak_50 := edX11_leak_33.2.2.2.2.2.2.2.2.2.2.1
def dX11_leak_53 := edX11_leak_33.2.2.2.2.2.2.2.2.2.2.2.1
def dX11_leak_56 := edX11_leak_33.2.2.2.2.2.2.2.2.2.2.2.2.1
def dX11_leak_59 := edX11_leak_33.2.2.2.2.2.2.2.2.2.2.2.2.2.1
def dX11_leak_60 := edX11_leak_33.2.2.2.2.2.2.2.2.2.2.2.2.2.2.1
def dX11_leak_61 := edX11_leak_33.2.2.2.2.2.2.2.2.2.2.2.2.2.2.2
theorem edX11_leak_62 : (decode cX11_leak 62 = .ok (.getfield 12, 3)) ∧ (decode cX11_leak 65 = .ok (.iload_n 2, 1)) ∧ (decode cX11_leak 66 = .ok (.invokevirtual 260, 3)) ∧ (decode cX11_leak 69 = .ok (.ifCond .ne 34, 3)) ∧ (decode cX11_leak 72 = .ok (.iload_n 3, 1)) ∧ (decode cX11_leak 73 = .ok (.bipush 20, 2)) ∧ (decode cX11_leak 75 = .ok (.if_icmp .gt 28, 3)) ∧ (decode cX11_leak 78 = .ok (.aload_n 0, 1)) ∧ (decode cX11_leak 79 = .ok (.iload_n 2, 1)) ∧ (decode cX11_leak 80 = .ok (.iload_n 3, 1)) ∧ (decode cX11_leak 81 = .ok (.invokevirtual 263, 3)) ∧ (decode cX11_leak 84 = .ok (.ifCond .eq 13, 3)) ∧ (decode cX11_leak 87 = .ok (.iload_n 1, 1)) ∧ (decode cX11_leak 88 = .ok (.ifCond .ne 7, 3)) ∧ (decode cX11_leak 91 = .ok (.iload_n 2, 1)) ∧ (decode cX11_leak 92 = .ok (.goto 4, 3)) := by decide +kernel
def dX11_leak_62 := edX11_leak_62.1
def dX11_leak_65 := edX11_leak_62.2.1
def dX11_leak_66 := edX11_leak_62.2.2.1
def dX11_leak_69 := edX11_leak_62.2.2.2.1
def dX11_leak_72 := edX11_leak_62.2.2.2.2.1
def dX11_leak_73 := edX11_leak_62.2.2.2.2.2.1
def dX11_leak_75 := edX11_leak_62.2.2.2.2.2.2.1
def dX11_leak_78 := edX11_leak_62.2.2.2.2.2.2.2.1
def dX11_leak_79 := edX11_leak_62.2.2.2.2.2.2.2.2.1
def dX11_leak_80 := edX11_leak_62.2.2.2.2.2.2.2.2.2.1
def dX11_leak_81 := edX11_leak_62.2.2.2.2.2.2.2.2.2.2.1
def dX11_leak_84 := edX11_leak_62.2.2.2.2.2.2.2.2.2.2.2.1
def dX11_leak_87 := edX11_leak_62.2.2.2.2.2.2.2.2.2.2.2.2.1
def dX11_leak_88 := edX11_leak_62.2.2.2.2.2.2.2.2.2.2.2.2.2.1
def dX11_leak_91 := edX11_leak_62.2.2.2.2.2.2.2.2.2.2.2.2.2.2.1
def dX11_leak_92 := edX11_leak_62.2.2.2.2.2.2.2.2.2.2.2.2.2.2.2
theorem edX11_leak_95 : (decode cX11_leak 95 = .ok (.iload_n 3, 1)) ∧ (decode cX11_leak 96 = .ok (.ireturn, 1)) ∧ (decode cX11_leak 97 = .ok (.iinc 3 1, 3)) ∧ (decode cX11_leak 100 = .ok (.goto (-39), 3)) ∧ (decode cX11_leak 103 = .ok (.iinc 2 1, 3)) ∧ (decode cX11_leak 106 = .ok (.goto (-58), 3)) ∧ (decode cX11_leak 109 = .ok (.bipush (-9), 2)) ∧ (decode cX11_leak 111 = .ok (.ireturn, 1)) := by decide +kernel
def dX11_leak_95 := edX11_leak_95.1
def dX11_leak_96 := edX11_leak_95.2.1
def dX11_leak_97 := edX11_leak_95.2.2.1
def dX11_leak_100 := edX11_leak_95.2.2.2.1
def dX11_leak_103 := edX11_leak_95.2.2.2.2.1
def dX11_leak_106 := edX11_leak_95.2.2.2.2.2.1
def dX11_leak_109 := edX11_leak_95.2.2.2.2.2.2.1
def dX11_leak_111 := edX11_leak_95.2.2.2.2.2.2.2
set_option maxRecDepth 100000 in
theorem ggX11_wouldTellAll_X7_become : GoodIn wsX11_wouldTellAll wsX7_become := goodIn_ca (b := wsX80) (goodIn_ca (b := wsX70) (goodIn_s _ [13, 14, 15, 16, 17, 18, 19, 21, 23, 24, 25, 26, 28, 29, 30, 31] [12, 20, 22, 27] (by decide +kernel) rfl (by decide +kernel)) (goodIn_sub (fun w h => List.mem_cons_of_mem _ (List.mem_append_left _ (List.mem_append_left _ (List.mem_append_left _ (List.mem_append_left _ (List.mem_append_left _ (List.mem_append_left _ (List.mem_append_left _ (List.mem_append_left _ (List.mem_append_right _ h)))))))))) gs_wsX70)) (goodIn_sub (fun w h => List.mem_cons_of_mem _ (List.mem_append_left _ (List.mem_append_left _ (List.mem_append_left _ (List.mem_append_left _ (List.mem_append_left _ (List.mem_append_left _ (List.mem_append_left _ (List.mem_append_right _ h))))))))) gs_wsX80)
set_option maxRecDepth 20000 in
theorem gX11_wouldTellAll_X7_become : GoodIn wsX11_wouldTellAll (wsV RX11 248 RX7 yX7_become wsX7_become) := goodIn_app (goodIn_of _ (by decide +kernel)) ggX11_wouldTellAll_X7_become
set_option maxRecDepth 100000 in
theorem ggX11_wouldTellAll_X11_set : GoodIn wsX11_wouldTellAll wsX11_set := goodIn_s _ [] [22] (by decide +kernel) rfl (by decide +kernel)
set_option maxRecDepth 20000 in
theorem gX11_wouldTellAll_X11_set : GoodIn wsX11_wouldTellAll (va_wsS RX11 266 yX11_set wsX11_set) := goodIn_app (goodIn_of _ (by decide +kernel)) ggX11_wouldTellAll_X11_set
set_option maxRecDepth 100000 in
theorem ggX11_wouldTellAll_X5_latest : GoodIn wsX11_wouldTellAll wsX5_latest := goodIn_ca (b := wsX50) (goodIn_s _ [38, 39, 40, 41, 42, 18, 19] [37, 43, 20] (by decide +kernel) rfl (by decide +kernel)) (goodIn_sub (fun w h => List.mem_cons_of_mem _ (List.mem_append_left _ (List.mem_append_left _ (List.mem_append_left _ (List.mem_append_left _ (List.mem_append_left _ (List.mem_append_left _ (List.mem_append_right _ h)))))))) gs_wsX50)
set_option maxRecDepth 20000 in
theorem gX11_wouldTellAll_X5_latest : GoodIn wsX11_wouldTellAll (wsV RX11 257 RX5 yX5_latest wsX5_latest) := goodIn_app (goodIn_of _ (by decide +kernel)) ggX11_wouldTellAll_X5_latest
set_option maxRecDepth 100000 in
theorem ggX11_wouldTellAll_X5_areToldAt : GoodIn wsX11_wouldTellAll wsX5_areToldAt := goodIn_ca (b := wsX70) (goodIn_ca (b := wsX50) (goodIn_s _ [38, 39, 48, 49, 50, 18, 19] [47, 20] (by decide +kernel) rfl (by decide +kernel)) (goodIn_sub (fun w h => List.mem_cons_of_mem _ (List.mem_append_left _ (List.mem_append_left _ (List.mem_append_left _ (List.mem_append_left _ (List.mem_append_left _ (List.mem_append_left _ (List.mem_append_right _ h)))))))) gs_wsX50)) (goodIn_sub (fun w h => List.mem_cons_of_mem _ (List.mem_append_left _ (List.mem_append_left _ (List.mem_append_left _ (List.mem_append_left _ (List.mem_append_left _ (List.mem_append_left _ (List.mem_append_left _ (List.mem_append_left _ (List.mem_append_right _ h)))))))))) gs_wsX70)
set_option maxRecDepth 20000 in
theorem gX11_wouldTellAll_X5_areToldAt : GoodIn wsX11_wouldTellAll (wsV RX11 269 RX5 yX5_areToldAt wsX5_areToldAt) := goodIn_app (goodIn_of _ (by decide +kernel)) ggX11_wouldTellAll_X5_areToldAt
set_option maxRecDepth 100000 in
theorem ggX11_wouldTellAll_X3_obey : GoodIn wsX11_wouldTellAll wsX3_obey := goodIn_ca (b := wsX40) (goodIn_ca (b := wsX100) (goodIn_ca (b := wsX20) (goodIn_ca (b := wsX00) (goodIn_ca (b := wsX30) (goodIn_ca (b := wsX70) (goodIn_s _ [56, 57, 58, 59, 60, 61, 62, 63, 64, 18, 19, 65, 66, 67, 68, 70, 71, 72, 73, 74, 75, 77, 78, 79, 81, 82, 83, 84, 85, 86, 87, 88, 89, 90, 21] [55, 20, 69, 76, 80, 22] (by decide +kernel) rfl (by decide +kernel)) (goodIn_sub (fun w h => List.mem_cons_of_mem _ (List.mem_append_left _ (List.mem_append_left _ (List.mem_append_left _ (List.mem_append_left _ (List.mem_append_left _ (List.mem_append_left _ (List.mem_append_left _ (List.mem_append_left _ (List.mem_append_right _ h)))))))))) gs_wsX70)) (goodIn_sub (fun w h => List.mem_cons_of_mem _ (List.mem_append_left _ (List.mem_append_left _ (List.mem_append_left _ (List.mem_append_left _ (List.mem_append_left _ (List.mem_append_right _ h))))))) gs_wsX30)) (goodIn_sub (fun w h => List.mem_cons_of_mem _ (List.mem_append_left _ (List.mem_append_left _ (List.mem_append_left _ (List.mem_append_left _ (List.mem_append_right _ h)))))) gs_wsX00)) (goodIn_sub (fun w h => List.mem_cons_of_mem _ (List.mem_append_left _ (List.mem_append_left _ (List.mem_append_left _ (List.mem_append_right _ h))))) gs_wsX20)) (goodIn_sub (fun w h => List.mem_cons_of_mem _ (List.mem_append_left _ (List.mem_append_left _ (List.mem_append_right _ h)))) gs_wsX100)) (goodIn_sub (fun w h => List.mem_cons_of_mem _ (List.mem_append_left _ (List.mem_append_right _ h))) gs_wsX40)
set_option maxRecDepth 20000 in
theorem gX11_wouldTellAll_X3_obey : GoodIn wsX11_wouldTellAll (wsV RX11 200 RX3 yX3_obey wsX3_obey) := goodIn_app (goodIn_of _ (by decide +kernel)) ggX11_wouldTellAll_X3_obey
set_option maxRecDepth 100000 in
theorem ggX11_wouldTellAll_X1_run : GoodIn wsX11_wouldTellAll wsX1_run := goodIn_ca (b := wsX100) (goodIn_ca (b := wsX20) (goodIn_ca (b := wsX00) (goodIn_ca (b := wsX80) (goodIn_ca (b := wsX70) (goodIn_ca (b := wsX40) (goodIn_ca (b := wsX10) (goodIn_s _ [96, 97, 98, 99, 100, 101, 102, 103, 42, 105, 106, 107, 108, 41, 109, 66, 67, 68, 70, 71, 110, 111, 112, 94, 114, 115, 18, 19, 116, 117, 118, 120, 121, 122, 123, 124, 125, 126, 75, 128, 129, 130, 77, 78, 79, 81, 82, 83, 84, 85, 86, 131, 132, 133, 134, 21, 135, 136, 137, 139, 140, 141, 142, 143, 144, 145, 147, 148, 149, 150, 151, 152, 154, 155, 156, 157, 158, 159, 160, 162, 163, 164, 165, 166, 167, 168, 169, 170, 172, 173, 174, 175, 177, 178, 179, 180, 181, 183, 184, 185, 26, 30, 29, 31, 187, 188, 189, 191, 192, 193, 194, 195, 196] [95, 104, 43, 69, 113, 20, 119, 127, 80, 22, 138, 146, 153, 161, 171, 176, 182, 186, 190, 197] (by decide +kernel) rfl (by decide +kernel)) (goodIn_sub (fun w h => List.mem_cons_of_mem _ (List.mem_append_right _ h)) gs_wsX10)) (goodIn_sub (fun w h => List.mem_cons_of_mem _ (List.mem_append_left _ (List.mem_append_right _ h))) gs_wsX40)) (goodIn_sub (fun w h => List.mem_cons_of_mem _ (List.mem_append_left _ (List.mem_append_left _ (List.mem_append_left _ (List.mem_append_left _ (List.mem_append_left _ (List.mem_append_left _ (List.mem_append_left _ (List.mem_append_left _ (List.mem_append_right _ h)))))))))) gs_wsX70)) (goodIn_sub (fun w h => List.mem_cons_of_mem _ (List.mem_append_left _ (List.mem_append_left _ (List.mem_append_left _ (List.mem_append_left _ (List.mem_append_left _ (List.mem_append_left _ (List.mem_append_left _ (List.mem_append_right _ h))))))))) gs_wsX80)) (goodIn_sub (fun w h => List.mem_cons_of_mem _ (List.mem_append_left _ (List.mem_append_left _ (List.mem_append_left _ (List.mem_append_left _ (List.mem_append_right _ h)))))) gs_wsX00)) (goodIn_sub (fun w h => List.mem_cons_of_mem _ (List.mem_append_left _ (List.mem_append_left _ (List.mem_append_left _ (List.mem_append_right _ h))))) gs_wsX20)) (goodIn_sub (fun w h => List.mem_cons_of_mem _ (List.mem_append_left _ (List.mem_append_left _ (List.mem_append_right _ h)))) gs_wsX100)
set_option maxRecDepth 20000 in
theorem gX11_wouldTellAll_X1_run : GoodIn wsX11_wouldTellAll (wsV RX11 204 RX1 yX1_run wsX1_run) := goodIn_app (goodIn_of _ (by decide +kernel)) ggX11_wouldTellAll_X1_run
theorem edX11_wouldTellAll_0 : (decode cX11_wouldTellAll 0 = .ok (.aload_n 0, 1)) ∧ (decode cX11_wouldTellAll 1 = .ok (.getfield 42, 3)) ∧ (decode cX11_wouldTellAll 4 = .ok (.aload_n 0, 1)) ∧ (decode cX11_wouldTellAll 5 = .ok (.getfield 39, 3)) ∧ (decode cX11_wouldTellAll 8 = .ok (.invokevirtual 248, 3)) ∧ (decode cX11_wouldTellAll 11 = .ok (.aload_n 0, 1)) ∧ (decode cX11_wouldTellAll 12 = .ok (.getfield 48, 3)) ∧ (decode cX11_wouldTellAll 15 = .ok (.iload_n 1, 1)) ∧ (decode cX11_wouldTellAll 16 = .ok (.iload_n 2, 1)) ∧ (decode cX11_wouldTellAll 17 = .ok (.invokestatic 266, 3)) ∧ (decode cX11_wouldTellAll 20 = .ok (.aload_n 0, 1)) ∧ (decode cX11_wouldTellAll 21 = .ok (.getfield 55, 3)) ∧ (decode cX11_wouldTellAll 24 = .ok (.invokevirtual 257, 3)) ∧ (decode cX11_wouldTellAll 27 = .ok (.istore_n 3, 1)) ∧ (decode cX11_wouldTellAll 28 = .ok (.aload_n 0, 1)) ∧ (decode cX11_wouldTellAll 29 = .ok (.getfield 55, 3)) := by decide +kernel
def dX11_wouldTellAll_0 := edX11_wouldTellAll_0.1
def dX11_wouldTellAll_1 := edX11_wouldTellAll_0.2.1
def dX11_wouldTellAll_4 := edX11_wouldTellAll_0.2.2.1
def dX11_wouldTellAll_5 := edX11_wouldTellAll_0.2.2.2.1
def dX11_wouldTellAll_8 := edX11_wouldTellAll_0.2.2.2.2.1
def dX11_wouldTellAll_11 := edX11_wouldTellAll_0.2.2.2.2.2.1
def dX11_wouldTellAll_12 := edX11_wouldTellAll_0.2.2.2.2.2.2.1
def dX11_wouldTellAll_15 := edX11_wouldTellAll_0.2.2.2.2.2.2.2.1
def dX11_wouldTellAll_16 := edX11_wouldTellAll_0.2.2.2.2.2.2.2.2.1
def dX11_wouldTellAll_17 := edX11_wouldTellAll_0.2.2.2.2.2.2.2.2.2.1
def dX11_wouldTellAll_20 := edX11_wouldTellAll_0.2.2.2.2.2.2.2.2.2.2.1
def dX11_wouldTellAll_21 := edX11_wouldTellAll_0.2.2.2.2.2.2.2.2.2.2.2.1
def dX11_wouldTellAll_24 := edX11_wouldTellAll_0.2.2.2.2.2.2.2.2.2.2.2.2.1
def dX11_wouldTellAll_27 := edX11_wouldTellAll_0.2.2.2.2.2.2.2.2.2.2.2.2.2.1
def dX11_wouldTellAll_28 := edX11_wouldTellAll_0.2.2.2.2.2.2.2.2.2.2.2.2.2.2.1
def dX11_wouldTellAll_29 := edX11_wouldTellAll_0.2.2.2.2.2.2.2.2.2.2.2.2.2.2.2
theorem edX11_wouldTellAll_32 : (decode cX11_wouldTellAll 32 = .ok (.iconst 0, 1)) ∧ (decode cX11_wouldTellAll 33 = .ok (.aload_n 0, 1)) ∧ (decode cX11_wouldTellAll 34 = .ok (.getfield 42, 3)) ∧ (decode cX11_wouldTellAll 37 = .ok (.invokevirtual 269, 3)) ∧ (decode cX11_wouldTellAll 40 = .ok (.istore 4, 2)) ∧ (decode cX11_wouldTellAll 42 = .ok (.iconst 1, 1)) ∧ (decode cX11_wouldTellAll 43 = .ok (.istore 5, 2)) ∧ (decode cX11_wouldTellAll 45 = .ok (.iload 4, 2)) ∧ (decode cX11_wouldTellAll 47 = .ok (.ifCond .eq 64, 3)) ∧ (decode cX11_wouldTellAll 50 = .ok (.iload 5, 2)) ∧ (decode cX11_wouldTellAll 52 = .ok (.iload_n 3, 1)) ∧ (decode cX11_wouldTellAll 53 = .ok (.if_icmp .gt 58, 3)) ∧ (decode cX11_wouldTellAll 56 = .ok (.aload_n 0, 1)) ∧ (decode cX11_wouldTellAll 57 = .ok (.getfield 35, 3)) ∧ (decode cX11_wouldTellAll 60 = .ok (.aload_n 0, 1)) ∧ (decode cX11_wouldTellAll 61 = .ok (.getfield 12, 3)) := by decide +kernel
def dX11_wouldTellAll_32 := edX11_wouldTellAll_32.1
def dX11_wouldTellAll_33 := edX11_wouldTellAll_32.2.1
def dX11_wouldTellAll_34 := edX11_wouldTellAll_32.2.2.1
def dX11_wouldTellAll_37 := edX11_wouldTellAll_32.2.2.2.1
def dX11_wouldTellAll_40 := edX11_wouldTellAll_32.2.2.2.2.1
def dX11_wouldTellAll_42 := edX11_wouldTellAll_32.2.2.2.2.2.1
def dX11_wouldTellAll_43 := edX11_wouldTellAll_32.2.2.2.2.2.2.1
def dX11_wouldTellAll_45 := edX11_wouldTellAll_32.2.2.2.2.2.2.2.1
def dX11_wouldTellAll_47 := edX11_wouldTellAll_32.2.2.2.2.2.2.2.2.1
def dX11_wouldTellAll_50 := edX11_wouldTellAll_32.2.2.2.2.2.2.2.2.2.1
def dX11_wouldTellAll_52 := edX11_wouldTellAll_32.2.2.2.2.2.2.2.2.2.2.1
def dX11_wouldTellAll_53 := edX11_wouldTellAll_32.2.2.2.2.2.2.2.2.2.2.2.1
def dX11_wouldTellAll_56 := edX11_wouldTellAll_32.2.2.2.2.2.2.2.2.2.2.2.2.1
def dX11_wouldTellAll_57 := edX11_wouldTellAll_32.2.2.2.2.2.2.2.2.2.2.2.2.2.1
def dX11_wouldTellAll_60 := edX11_wouldTellAll_32.2.2.2.2.2.2.2.2.2.2.2.2.2.2.1
def dX11_wouldTellAll_61 := edX11_wouldTellAll_32.2.2.2.2.2.2.2.2.2.2.2.2.2.2.2
theorem edX11_wouldTellAll_64 : (decode cX11_wouldTellAll 64 = .ok (.aload_n 0, 1)) ∧ (decode cX11_wouldTellAll 65 = .ok (.getfield 42, 3)) ∧ (decode cX11_wouldTellAll 68 = .ok (.invokevirtual 200, 3)) ∧ (decode cX11_wouldTellAll 71 = .ok (.aload_n 0, 1)) ∧ (decode cX11_wouldTellAll 72 = .ok (.getfield 45, 3)) ∧ (decode cX11_wouldTellAll 75 = .ok (.aload_n 0, 1)) ∧ (decode cX11_wouldTellAll 76 = .ok (.getfield 12, 3)) ∧ (decode cX11_wouldTellAll 79 = .ok (.aload_n 0, 1)) ∧ (decode cX11_wouldTellAll 80 = .ok (.getfield 42, 3)) ∧ (decode cX11_wouldTellAll 83 = .ok (.aload_n 0, 1)) ∧ (decode cX11_wouldTellAll 84 = .ok (.getfield 48, 3)) ∧ (decode cX11_wouldTellAll 87 = .ok (.invokevirtual 204, 3)) ∧ (decode cX11_wouldTellAll 90 = .ok (.aload_n 0, 1)) ∧ (decode cX11_wouldTellAll 91 = .ok (.getfield 55, 3)) ∧ (decode cX11_wouldTellAll 94 = .ok (.iload 5, 2)) ∧ (decode cX11_wouldTellAll 96 = .ok (.aload_n 0, 1)) := by decide +kernel
def dX11_wouldTellAll_64 := edX11_wouldTellAll_64.1
def dX11_wouldTellAll_65 := edX11_wouldTellAll_64.2.1
def dX11_wouldTellAll_68 := edX11_wouldTellAll_64.2.2.1
def dX11_wouldTellAll_71 := edX11_wouldTellAll_64.2.2.2.1
def dX11_wouldTellAll_72 := edX11_wouldTellAll_64.2.2.2.2.1
def dX11_wouldTellAll_75 := edX11_wouldTellAll_64.2.2.2.2.2.1
def dX11_wouldTellAll_76 := edX11_wouldTellAll_64.2.2.2.2.2.2.1
def dX11_wouldTellAll_79 := edX11_wouldTellAll_64.2.2.2.2.2.2.2.1
def dX11_wouldTellAll_80 := edX11_wouldTellAll_64.2.2.2.2.2.2.2.2.1
def dX11_wouldTellAll_83 := edX11_wouldTellAll_64.2.2.2.2.2.2.2.2.2.1
def dX11_wouldTellAll_84 := edX11_wouldTellAll_64.2.2.2.2.2.2.2.2.2.2.1
def dX11_wouldTellAll_87 := edX11_wouldTellAll_64.2.2.2.2.2.2.2.2.2.2.2.1
def dX11_wouldTellAll_90 := edX11_wouldTellAll_64.2.2.2.2.2.2.2.2.2.2.2.2.1
def dX11_wouldTellAll_91 := edX11_wouldTellAll_64.2.2.2.2.2.2.2.2.2.2.2.2.2.1
def dX11_wouldTellAll_94 := edX11_wouldTellAll_64.2.2.2.2.2.2.2.2.2.2.2.2.2.2.1
def dX11_wouldTellAll_96 := edX11_wouldTellAll_64.2.2.2.2.2.2.2.2.2.2.2.2.2.2.2
theorem edX11_wouldTellAll_97 : (decode cX11_wouldTellAll 97 = .ok (.getfield 42, 3)) ∧ (decode cX11_wouldTellAll 100 = .ok (.invokevirtual 269, 3)) ∧ (decode cX11_wouldTellAll 103 = .ok (.istore 4, 2)) ∧ (decode cX11_wouldTellAll 105 = .ok (.iinc 5 1, 3)) ∧ (decode cX11_wouldTellAll 108 = .ok (.goto (-63), 3)) ∧ (decode cX11_wouldTellAll 111 = .ok (.aload_n 0, 1)) ∧ (decode cX11_wouldTellAll 112 = .ok (.getfield 48, 3)) ∧ (decode cX11_wouldTellAll 115 = .ok (.iload_n 1, 1)) ∧ (decode cX11_wouldTellAll 116 = .ok (.iconst 0, 1)) ∧ (decode cX11_wouldTellAll 117 = .ok (.invokestatic 266, 3)) ∧ (decode cX11_wouldTellAll 120 = .ok (.iload 4, 2)) ∧ (decode cX11_wouldTellAll 122 = .ok (.ireturn, 1)) := by decide +kernel
def dX11_wouldTellAll_97 := edX11_wouldTellAll_97.1
def dX11_wouldTellAll_100 := edX11_wouldTellAll_97.2.1
def dX11_wouldTellAll_103 := edX11_wouldTellAll_97.2.2.1
def dX11_wouldTellAll_105 := edX11_wouldTellAll_97.2.2.2.1
def dX11_wouldTellAll_108 := edX11_wouldTellAll_97.2.2.2.2.1
def dX11_wouldTellAll_111 := edX11_wouldTellAll_97.2.2.2.2.2.1
def dX11_wouldTellAll_112 := edX11_wouldTellAll_97.2.2.2.2.2.2.1
def dX11_wouldTellAll_115 := edX11_wouldTellAll_97.2.2.2.2.2.2.2.1
def dX11_wouldTellAll_116 := edX11_wouldTellAll_97.2.2.2.2.2.2.2.2.1
def dX11_wouldTellAll_117 := edX11_wouldTellAll_97.2.2.2.2.2.2.2.2.2.1
def dX11_wouldTellAll_120 := edX11_wouldTellAll_97.2.2.2.2.2.2.2.2.2.2.1
def dX11_wouldTellAll_122 := edX11_wouldTellAll_97.2.2.2.2.2.2.2.2.2.2.2
set_option maxRecDepth 100000 in
theorem ggX11_sheet_X11_sheetAt : GoodIn wsX11_sheet wsX11_sheetAt := goodIn_ca (b := wsX110) (goodIn_s _ [7] [6] (by decide +kernel) rfl (by decide +kernel)) (goodIn_sub (fun w h => List.mem_cons_of_mem _ (List.mem_append_left _ (List.mem_append_right _ h))) gs_wsX110)
set_option maxRecDepth 20000 in
theorem gX11_sheet_X11_sheetAt : GoodIn wsX11_sheet (wsV RX11 113 RX11 yX11_sheetAt wsX11_sheetAt) := goodIn_app (goodIn_of _ (by decide +kernel)) ggX11_sheet_X11_sheetAt
set_option maxRecDepth 100000 in
theorem ggX11_sheet_X11_isLane : GoodIn wsX11_sheet wsX11_isLane := goodIn_s _ [11, 12, 5] [10, 13] (by decide +kernel) rfl (by decide +kernel)
set_option maxRecDepth 20000 in
theorem gX11_sheet_X11_isLane : GoodIn wsX11_sheet (va_wsS RX11 117 yX11_isLane wsX11_isLane) := goodIn_app (goodIn_of _ (by decide +kernel)) ggX11_sheet_X11_isLane
set_option maxRecDepth 100000 in
theorem ggX11_sheet_X11_faulted : GoodIn wsX11_sheet wsX11_faulted := goodIn_ca (b := wsX110) (goodIn_s _ [1] [17] (by decide +kernel) rfl (by decide +kernel)) (goodIn_sub (fun w h => List.mem_cons_of_mem _ (List.mem_append_left _ (List.mem_append_right _ h))) gs_wsX110)
set_option maxRecDepth 20000 in
theorem gX11_sheet_X11_faulted : GoodIn wsX11_sheet (wsV RX11 124 RX11 yX11_faulted wsX11_faulted) := goodIn_app (goodIn_of _ (by decide +kernel)) ggX11_sheet_X11_faulted
set_option maxRecDepth 100000 in
theorem ggX11_sheet_X6_renew : GoodIn wsX11_sheet wsX6_renew := goodIn_ca (b := wsX60) (goodIn_s _ [23, 24, 25, 26, 27, 28, 30, 31, 32, 33] [22, 29, 34] (by decide +kernel) rfl (by decide +kernel)) (goodIn_sub (fun w h => List.mem_cons_of_mem _ (List.mem_append_right _ h)) gs_wsX60)
set_option maxRecDepth 20000 in
theorem gX11_sheet_X6_renew : GoodIn wsX11_sheet (wsV RX11 273 RX6 yX6_renew wsX6_renew) := goodIn_app (goodIn_of _ (by decide +kernel)) ggX11_sheet_X6_renew
theorem edX11_sheet_0 : (decode cX11_sheet 0 = .ok (.aload_n 0, 1)) ∧ (decode cX11_sheet 1 = .ok (.iconst 0, 1)) ∧ (decode cX11_sheet 2 = .ok (.putfield 110, 3)) ∧ (decode cX11_sheet 5 = .ok (.aload_n 0, 1)) ∧ (decode cX11_sheet 6 = .ok (.iload_n 1, 1)) ∧ (decode cX11_sheet 7 = .ok (.invokevirtual 113, 3)) ∧ (decode cX11_sheet 10 = .ok (.astore 4, 2)) ∧ (decode cX11_sheet 12 = .ok (.aload 4, 2)) ∧ (decode cX11_sheet 14 = .ok (.ifnonnull 5, 3)) ∧ (decode cX11_sheet 17 = .ok (.iconst (-1), 1)) ∧ (decode cX11_sheet 18 = .ok (.ireturn, 1)) ∧ (decode cX11_sheet 19 = .ok (.iload_n 2, 1)) ∧ (decode cX11_sheet 20 = .ok (.invokestatic 117, 3)) ∧ (decode cX11_sheet 23 = .ok (.ifCond .eq 9, 3)) ∧ (decode cX11_sheet 26 = .ok (.iload_n 3, 1)) ∧ (decode cX11_sheet 27 = .ok (.bipush 20, 2)) := by decide +kernel
def dX11_sheet_0 := edX11_sheet_0.1
def dX11_sheet_1 := edX11_sheet_0.2.1
def dX11_sheet_2 := edX11_sheet_0.2.2.1
def dX11_sheet_5 := edX11_sheet_0.2.2.2.1
def dX11_sheet_6 := edX11_sheet_0.2.2.2.2.1
def dX11_sheet_7 := edX11_sheet_0.2.2.2.2.2.1
def dX11_sheet_10 := edX11_sheet_0.2.2.2.2.2.2.1
def dX11_sheet_12 := edX11_sheet_0.2.2.2.2.2.2.2.1
def dX11_sheet_14 := edX11_sheet_0.2.2.2.2.2.2.2.2.1
def dX11_sheet_17 := edX11_sheet_0.2.2.2.2.2.2.2.2.2.1
def dX11_sheet_18 := edX11_sheet_0.2.2.2.2.2.2.2.2.2.2.1
def dX11_sheet_19 := edX11_sheet_0.2.2.2.2.2.2.2.2.2.2.2.1
def dX11_sheet_20 := edX11_sheet_0.2.2.2.2.2.2.2.2.2.2.2.2.1
def dX11_sheet_23 := edX11_sheet_0.2.2.2.2.2.2.2.2.2.2.2.2.2.1
def dX11_sheet_26 := edX11_sheet_0.2.2.2.2.2.2.2.2.2.2.2.2.2.2.1
def dX11_sheet_27 := edX11_sheet_0.2.2.2.2.2.2.2.2.2.2.2.2.2.2.2
theorem edX11_sheet_29 : (decode cX11_sheet 29 = .ok (.if_icmp .le 6, 3)) ∧ (decode cX11_sheet 32 = .ok (.bipush (-2), 2)) ∧ (decode cX11_sheet 34 = .ok (.ireturn, 1)) ∧ (decode cX11_sheet 35 = .ok (.iload_n 3, 1)) ∧ (decode cX11_sheet 36 = .ok (.ifCond .ge 9, 3)) ∧ (decode cX11_sheet 39 = .ok (.aload_n 0, 1)) ∧ (decode cX11_sheet 40 = .ok (.iconst 4, 1)) ∧ (decode cX11_sheet 41 = .ok (.invokevirtual 124, 3)) ∧ (decode cX11_sheet 44 = .ok (.ireturn, 1)) ∧ (decode cX11_sheet 45 = .ok (.aload 4, 2)) ∧ (decode cX11_sheet 47 = .ok (.iload_n 2, 1)) ∧ (decode cX11_sheet 48 = .ok (.iload_n 3, 1)) ∧ (decode cX11_sheet 49 = .ok (.invokevirtual 273, 3)) ∧ (decode cX11_sheet 52 = .ok (.iconst 1, 1)) ∧ (decode cX11_sheet 53 = .ok (.ireturn, 1)) := by decide +kernel
def dX11_sheet_29 := edX11_sheet_29.1
def dX11_sheet_32 := edX11_sheet_29.2.1
def dX11_sheet_34 := edX11_sheet_29.2.2.1
def dX11_sheet_35 := edX11_sheet_29.2.2.2.1
def dX11_sheet_36 := edX11_sheet_29.2.2.2.2.1
def dX11_sheet_39 := edX11_sheet_29.2.2.2.2.2.1
def dX11_sheet_40 := edX11_sheet_29.2.2.2.2.2.2.1
def dX11_sheet_41 := edX11_sheet_29.2.2.2.2.2.2.2.1
def dX11_sheet_44 := edX11_sheet_29.2.2.2.2.2.2.2.2.1
def dX11_sheet_45 := edX11_sheet_29.2.2.2.2.2.2.2.2.2.1
def dX11_sheet_47 := edX11_sheet_29.2.2.2.2.2.2.2.2.2.2.1
def dX11_sheet_48 := edX11_sheet_29.2.2.2.2.2.2.2.2.2.2.2.1
def dX11_sheet_49 := edX11_sheet_29.2.2.2.2.2.2.2.2.2.2.2.2.1
def dX11_sheet_52 := edX11_sheet_29.2.2.2.2.2.2.2.2.2.2.2.2.2.1
def dX11_sheet_53 := edX11_sheet_29.2.2.2.2.2.2.2.2.2.2.2.2.2.2
set_option maxRecDepth 100000 in
theorem ggX11_lose_X11_sheetAt : GoodIn wsX11_lose wsX11_sheetAt := goodIn_ca (b := wsX110) (goodIn_s _ [7] [6] (by decide +kernel) rfl (by decide +kernel)) (goodIn_sub (fun w h => List.mem_cons_of_mem _ (List.mem_append_right _ h)) gs_wsX110)
set_option maxRecDepth 20000 in
theorem gX11_lose_X11_sheetAt : GoodIn wsX11_lose (wsV RX11 113 RX11 yX11_sheetAt wsX11_sheetAt) := goodIn_app (goodIn_of _ (by decide +kernel)) ggX11_lose_X11_sheetAt
theorem edX11_lose_0 : (decode cX11_lose 0 = .ok (.aload_n 0, 1)) ∧ (decode cX11_lose 1 = .ok (.iload_n 1, 1)) ∧ (decode cX11_lose 2 = .ok (.invokevirtual 113, 3)) ∧ (decode cX11_lose 5 = .ok (.astore_n 2, 1)) ∧ (decode cX11_lose 6 = .ok (.aload_n 2, 1)) ∧ (decode cX11_lose 7 = .ok (.ifnonnull 5, 3)) ∧ (decode cX11_lose 10 = .ok (.iconst (-1), 1)) ∧ (decode cX11_lose 11 = .ok (.ireturn, 1)) ∧ (decode cX11_lose 12 = .ok (.aload_n 2, 1)) ∧ (decode cX11_lose 13 = .ok (.getfield 277, 3)) ∧ (decode cX11_lose 16 = .ok (.istore_n 3, 1)) ∧ (decode cX11_lose 17 = .ok (.aload_n 2, 1)) ∧ (decode cX11_lose 18 = .ok (.iconst 0, 1)) ∧ (decode cX11_lose 19 = .ok (.putfield 277, 3)) ∧ (decode cX11_lose 22 = .ok (.iload_n 3, 1)) ∧ (decode cX11_lose 23 = .ok (.ifCond .eq 7, 3)) := by decide +kernel
def dX11_lose_0 := edX11_lose_0.1
def dX11_lose_1 := edX11_lose_0.2.1
def dX11_lose_2 := edX11_lose_0.2.2.1
def dX11_lose_5 := edX11_lose_0.2.2.2.1
def dX11_lose_6 := edX11_lose_0.2.2.2.2.1
def dX11_lose_7 := edX11_lose_0.2.2.2.2.2.1
def dX11_lose_10 := edX11_lose_0.2.2.2.2.2.2.1
def dX11_lose_11 := edX11_lose_0.2.2.2.2.2.2.2.1
def dX11_lose_12 := edX11_lose_0.2.2.2.2.2.2.2.2.1
def dX11_lose_13 := edX11_lose_0.2.2.2.2.2.2.2.2.2.1
def dX11_lose_16 := edX11_lose_0.2.2.2.2.2.2.2.2.2.2.1
def dX11_lose_17 := edX11_lose_0.2.2.2.2.2.2.2.2.2.2.2.1
def dX11_lose_18 := edX11_lose_0.2.2.2.2.2.2.2.2.2.2.2.2.1
def dX11_lose_19 := edX11_lose_0.2.2.2.2.2.2.2.2.2.2.2.2.2.1
def dX11_lose_22 := edX11_lose_0.2.2.2.2.2.2.2.2.2.2.2.2.2.2.1
def dX11_lose_23 := edX11_lose_0.2.2.2.2.2.2.2.2.2.2.2.2.2.2.2
theorem edX11_lose_26 : (decode cX11_lose 26 = .ok (.iconst 1, 1)) ∧ (decode cX11_lose 27 = .ok (.goto 4, 3)) ∧ (decode cX11_lose 30 = .ok (.iconst 0, 1)) ∧ (decode cX11_lose 31 = .ok (.ireturn, 1)) := by decide +kernel
def dX11_lose_26 := edX11_lose_26.1
def dX11_lose_27 := edX11_lose_26.2.1
def dX11_lose_30 := edX11_lose_26.2.2.1
def dX11_lose_31 := edX11_lose_26.2.2.2
set_option maxRecDepth 100000 in
theorem ggX11_put_X11_sheetAt : GoodIn wsX11_put wsX11_sheetAt := goodIn_ca (b := wsX110) (goodIn_s _ [8] [7] (by decide +kernel) rfl (by decide +kernel)) (goodIn_sub (fun w h => List.mem_cons_of_mem _ (List.mem_append_left _ (List.mem_append_right _ h))) gs_wsX110)
set_option maxRecDepth 20000 in
theorem gX11_put_X11_sheetAt : GoodIn wsX11_put (wsV RX11 113 RX11 yX11_sheetAt wsX11_sheetAt) := goodIn_app (goodIn_of _ (by decide +kernel)) ggX11_put_X11_sheetAt
set_option maxRecDepth 100000 in
theorem ggX11_put_X11_faulted : GoodIn wsX11_put wsX11_faulted := goodIn_ca (b := wsX110) (goodIn_s _ [1] [12] (by decide +kernel) rfl (by decide +kernel)) (goodIn_sub (fun w h => List.mem_cons_of_mem _ (List.mem_append_left _ (List.mem_append_right _ h))) gs_wsX110)
set_option maxRecDepth 20000 in
theorem gX11_put_X11_faulted : GoodIn wsX11_put (wsV RX11 124 RX11 yX11_faulted wsX11_faulted) := goodIn_app (goodIn_of _ (by decide +kernel)) ggX11_put_X11_faulted
set_option maxRecDepth 100000 in
theorem ggX11_put_X6_holds : GoodIn wsX11_put wsX6_holds := goodIn_ca (b := wsX60) (goodIn_s _ [18] [17] (by decide +kernel) rfl (by decide +kernel)) (goodIn_sub (fun w h => List.mem_cons_of_mem _ (List.mem_append_right _ h)) gs_wsX60)
set_option maxRecDepth 20000 in
theorem gX11_put_X6_holds : GoodIn wsX11_put (wsV RX11 127 RX6 yX6_holds wsX6_holds) := goodIn_app (goodIn_of _ (by decide +kernel)) ggX11_put_X6_holds
set_option maxRecDepth 100000 in
theorem ggX11_put_X6_write : GoodIn wsX11_put wsX6_write := goodIn_ca (b := wsX60) (goodIn_s _ [23, 24, 25, 6] [22, 26] (by decide +kernel) rfl (by decide +kernel)) (goodIn_sub (fun w h => List.mem_cons_of_mem _ (List.mem_append_right _ h)) gs_wsX60)
set_option maxRecDepth 20000 in
theorem gX11_put_X6_write : GoodIn wsX11_put (wsV RX11 280 RX6 yX6_write wsX6_write) := goodIn_app (goodIn_of _ (by decide +kernel)) ggX11_put_X6_write
theorem edX11_put_0 : (decode cX11_put 0 = .ok (.aload_n 0, 1)) ∧ (decode cX11_put 1 = .ok (.iconst 0, 1)) ∧ (decode cX11_put 2 = .ok (.putfield 110, 3)) ∧ (decode cX11_put 5 = .ok (.aload_n 0, 1)) ∧ (decode cX11_put 6 = .ok (.iload_n 1, 1)) ∧ (decode cX11_put 7 = .ok (.invokevirtual 113, 3)) ∧ (decode cX11_put 10 = .ok (.astore 4, 2)) ∧ (decode cX11_put 12 = .ok (.aload 4, 2)) ∧ (decode cX11_put 14 = .ok (.ifnonnull 5, 3)) ∧ (decode cX11_put 17 = .ok (.iconst (-1), 1)) ∧ (decode cX11_put 18 = .ok (.ireturn, 1)) ∧ (decode cX11_put 19 = .ok (.aload 4, 2)) ∧ (decode cX11_put 21 = .ok (.getfield 277, 3)) ∧ (decode cX11_put 24 = .ok (.ifCond .ne 9, 3)) ∧ (decode cX11_put 27 = .ok (.aload_n 0, 1)) ∧ (decode cX11_put 28 = .ok (.iconst 1, 1)) := by decide +kernel
def dX11_put_0 := edX11_put_0.1
def dX11_put_1 := edX11_put_0.2.1
def dX11_put_2 := edX11_put_0.2.2.1
def dX11_put_5 := edX11_put_0.2.2.2.1
def dX11_put_6 := edX11_put_0.2.2.2.2.1
def dX11_put_7 := edX11_put_0.2.2.2.2.2.1
def dX11_put_10 := edX11_put_0.2.2.2.2.2.2.1
def dX11_put_12 := edX11_put_0.2.2.2.2.2.2.2.1
def dX11_put_14 := edX11_put_0.2.2.2.2.2.2.2.2.1
def dX11_put_17 := edX11_put_0.2.2.2.2.2.2.2.2.2.1
def dX11_put_18 := edX11_put_0.2.2.2.2.2.2.2.2.2.2.1
def dX11_put_19 := edX11_put_0.2.2.2.2.2.2.2.2.2.2.2.1
def dX11_put_21 := edX11_put_0.2.2.2.2.2.2.2.2.2.2.2.2.1
def dX11_put_24 := edX11_put_0.2.2.2.2.2.2.2.2.2.2.2.2.2.1
def dX11_put_27 := edX11_put_0.2.2.2.2.2.2.2.2.2.2.2.2.2.2.1
def dX11_put_28 := edX11_put_0.2.2.2.2.2.2.2.2.2.2.2.2.2.2.2
theorem edX11_put_29 : (decode cX11_put 29 = .ok (.invokevirtual 124, 3)) ∧ (decode cX11_put 32 = .ok (.ireturn, 1)) ∧ (decode cX11_put 33 = .ok (.aload 4, 2)) ∧ (decode cX11_put 35 = .ok (.iload_n 2, 1)) ∧ (decode cX11_put 36 = .ok (.iconst 1, 1)) ∧ (decode cX11_put 37 = .ok (.invokevirtual 127, 3)) ∧ (decode cX11_put 40 = .ok (.ifCond .ne 9, 3)) ∧ (decode cX11_put 43 = .ok (.aload_n 0, 1)) ∧ (decode cX11_put 44 = .ok (.iconst 3, 1)) ∧ (decode cX11_put 45 = .ok (.invokevirtual 124, 3)) ∧ (decode cX11_put 48 = .ok (.ireturn, 1)) ∧ (decode cX11_put 49 = .ok (.aload 4, 2)) ∧ (decode cX11_put 51 = .ok (.iload_n 2, 1)) ∧ (decode cX11_put 52 = .ok (.iload_n 3, 1)) ∧ (decode cX11_put 53 = .ok (.invokevirtual 280, 3)) ∧ (decode cX11_put 56 = .ok (.iconst 1, 1)) := by decide +kernel
def dX11_put_29 := edX11_put_29.1
def dX11_put_32 := edX11_put_29.2.1
def dX11_put_33 := edX11_put_29.2.2.1
def dX11_put_35 := edX11_put_29.2.2.2.1
def dX11_put_36 := edX11_put_29.2.2.2.2.1
def dX11_put_37 := edX11_put_29.2.2.2.2.2.1
def dX11_put_40 := edX11_put_29.2.2.2.2.2.2.1
def dX11_put_43 := edX11_put_29.2.2.2.2.2.2.2.1
def dX11_put_44 := edX11_put_29.2.2.2.2.2.2.2.2.1
def dX11_put_45 := edX11_put_29.2.2.2.2.2.2.2.2.2.1
def dX11_put_48 := edX11_put_29.2.2.2.2.2.2.2.2.2.2.1
def dX11_put_49 := edX11_put_29.2.2.2.2.2.2.2.2.2.2.2.1
def dX11_put_51 := edX11_put_29.2.2.2.2.2.2.2.2.2.2.2.2.1
def dX11_put_52 := edX11_put_29.2.2.2.2.2.2.2.2.2.2.2.2.2.1
def dX11_put_53 := edX11_put_29.2.2.2.2.2.2.2.2.2.2.2.2.2.2.1
def dX11_put_56 := edX11_put_29.2.2.2.2.2.2.2.2.2.2.2.2.2.2.2
theorem dX11_put_57 : decode cX11_put 57 = .ok (.ireturn, 1) := by decide +kernel
set_option maxRecDepth 100000 in
theorem ggX11_cell_X11_sheetAt : GoodIn wsX11_cell wsX11_sheetAt := goodIn_ca (b := wsX110) (goodIn_s _ [9] [8] (by decide +kernel) rfl (by decide +kernel)) (goodIn_sub (fun w h => List.mem_cons_of_mem _ (List.mem_append_left _ (List.mem_append_right _ h))) gs_wsX110)
set_option maxRecDepth 20000 in
theorem gX11_cell_X11_sheetAt : GoodIn wsX11_cell (wsV RX11 113 RX11 yX11_sheetAt wsX11_sheetAt) := goodIn_app (goodIn_of _ (by decide +kernel)) ggX11_cell_X11_sheetAt
set_option maxRecDepth 100000 in
theorem ggX11_cell_X11_isLane : GoodIn wsX11_cell wsX11_isLane := goodIn_s _ [13, 14, 7] [12, 15] (by decide +kernel) rfl (by decide +kernel)
set_option maxRecDepth 20000 in
theorem gX11_cell_X11_isLane : GoodIn wsX11_cell (va_wsS RX11 117 yX11_isLane wsX11_isLane) := goodIn_app (goodIn_of _ (by decide +kernel)) ggX11_cell_X11_isLane
set_option maxRecDepth 100000 in
theorem ggX11_cell_X6_faultTakenAs : GoodIn wsX11_cell wsX6_faultTakenAs := goodIn_ca (b := wsX60) (goodIn_s _ [21, 22] [20] (by decide +kernel) rfl (by decide +kernel)) (goodIn_sub (fun w h => List.mem_cons_of_mem _ (List.mem_append_right _ h)) gs_wsX60)
set_option maxRecDepth 20000 in
theorem gX11_cell_X6_faultTakenAs : GoodIn wsX11_cell (wsV RX11 121 RX6 yX6_faultTakenAs wsX6_faultTakenAs) := goodIn_app (goodIn_of _ (by decide +kernel)) ggX11_cell_X6_faultTakenAs
set_option maxRecDepth 100000 in
theorem ggX11_cell_X6_holds : GoodIn wsX11_cell wsX6_holds := goodIn_ca (b := wsX60) (goodIn_s _ [27] [26] (by decide +kernel) rfl (by decide +kernel)) (goodIn_sub (fun w h => List.mem_cons_of_mem _ (List.mem_append_right _ h)) gs_wsX60)
set_option maxRecDepth 20000 in
theorem gX11_cell_X6_holds : GoodIn wsX11_cell (wsV RX11 127 RX6 yX6_holds wsX6_holds) := goodIn_app (goodIn_of _ (by decide +kernel)) ggX11_cell_X6_holds
set_option maxRecDepth 100000 in
theorem ggX11_cell_X11_get : GoodIn wsX11_cell wsX11_get := goodIn_s _ [] [30] (by decide +kernel) rfl (by decide +kernel)
set_option maxRecDepth 20000 in
theorem gX11_cell_X11_get : GoodIn wsX11_cell (va_wsS RX11 181 yX11_get wsX11_get) := goodIn_app (goodIn_of _ (by decide +kernel)) ggX11_cell_X11_get
theorem edX11_cell_0 : (decode cX11_cell 0 = .ok (.aload_n 0, 1)) ∧ (decode cX11_cell 1 = .ok (.iconst 0, 1)) ∧ (decode cX11_cell 2 = .ok (.putfield 110, 3)) ∧ (decode cX11_cell 5 = .ok (.aload_n 0, 1)) ∧ (decode cX11_cell 6 = .ok (.iload_n 1, 1)) ∧ (decode cX11_cell 7 = .ok (.invokevirtual 113, 3)) ∧ (decode cX11_cell 10 = .ok (.astore 4, 2)) ∧ (decode cX11_cell 12 = .ok (.aload 4, 2)) ∧ (decode cX11_cell 14 = .ok (.ifnull 10, 3)) ∧ (decode cX11_cell 17 = .ok (.iload_n 3, 1)) ∧ (decode cX11_cell 18 = .ok (.invokestatic 117, 3)) ∧ (decode cX11_cell 21 = .ok (.ifCond .ne 7, 3)) ∧ (decode cX11_cell 24 = .ok (.ldc2_w 239, 3)) ∧ (decode cX11_cell 27 = .ok (.lreturn, 1)) ∧ (decode cX11_cell 28 = .ok (.aload_n 0, 1)) ∧ (decode cX11_cell 29 = .ok (.aload 4, 2)) := by decide +kernel
def dX11_cell_0 := edX11_cell_0.1
def dX11_cell_1 := edX11_cell_0.2.1
def dX11_cell_2 := edX11_cell_0.2.2.1
def dX11_cell_5 := edX11_cell_0.2.2.2.1
def dX11_cell_6 := edX11_cell_0.2.2.2.2.1
def dX11_cell_7 := edX11_cell_0.2.2.2.2.2.1
def dX11_cell_10 := edX11_cell_0.2.2.2.2.2.2.1
def dX11_cell_12 := edX11_cell_0.2.2.2.2.2.2.2.1
def dX11_cell_14 := edX11_cell_0.2.2.2.2.2.2.2.2.1
def dX11_cell_17 := edX11_cell_0.2.2.2.2.2.2.2.2.2.1
def dX11_cell_18 := edX11_cell_0.2.2.2.2.2.2.2.2.2.2.1
def dX11_cell_21 := edX11_cell_0.2.2.2.2.2.2.2.2.2.2.2.1
def dX11_cell_24 := edX11_cell_0.2.2.2.2.2.2.2.2.2.2.2.2.1
def dX11_cell_27 := edX11_cell_0.2.2.2.2.2.2.2.2.2.2.2.2.2.1
def dX11_cell_28 := edX11_cell_0.2.2.2.2.2.2.2.2.2.2.2.2.2.2.1
def dX11_cell_29 := edX11_cell_0.2.2.2.2.2.2.2.2.2.2.2.2.2.2.2
theorem edX11_cell_31 : (decode cX11_cell 31 = .ok (.iload_n 3, 1)) ∧ (decode cX11_cell 32 = .ok (.invokevirtual 121, 3)) ∧ (decode cX11_cell 35 = .ok (.putfield 110, 3)) ∧ (decode cX11_cell 38 = .ok (.aload_n 0, 1)) ∧ (decode cX11_cell 39 = .ok (.getfield 110, 3)) ∧ (decode cX11_cell 42 = .ok (.ifCond .eq 7, 3)) ∧ (decode cX11_cell 45 = .ok (.ldc2_w 239, 3)) ∧ (decode cX11_cell 48 = .ok (.lreturn, 1)) ∧ (decode cX11_cell 49 = .ok (.aload 4, 2)) ∧ (decode cX11_cell 51 = .ok (.iload_n 2, 1)) ∧ (decode cX11_cell 52 = .ok (.iconst 1, 1)) ∧ (decode cX11_cell 53 = .ok (.invokevirtual 127, 3)) ∧ (decode cX11_cell 56 = .ok (.ifCond .ne 12, 3)) ∧ (decode cX11_cell 59 = .ok (.aload_n 0, 1)) ∧ (decode cX11_cell 60 = .ok (.iconst 3, 1)) ∧ (decode cX11_cell 61 = .ok (.putfield 110, 3)) := by decide +kernel
def dX11_cell_31 := edX11_cell_31.1
def dX11_cell_32 := edX11_cell_31.2.1
def dX11_cell_35 := edX11_cell_31.2.2.1
def dX11_cell_38 := edX11_cell_31.2.2.2.1
def dX11_cell_39 := edX11_cell_31.2.2.2.2.1
def dX11_cell_42 := edX11_cell_31.2.2.2.2.2.1
def dX11_cell_45 := edX11_cell_31.2.2.2.2.2.2.1
def dX11_cell_48 := edX11_cell_31.2.2.2.2.2.2.2.1
def dX11_cell_49 := edX11_cell_31.2.2.2.2.2.2.2.2.1
def dX11_cell_51 := edX11_cell_31.2.2.2.2.2.2.2.2.2.1
def dX11_cell_52 := edX11_cell_31.2.2.2.2.2.2.2.2.2.2.1
def dX11_cell_53 := edX11_cell_31.2.2.2.2.2.2.2.2.2.2.2.1
def dX11_cell_56 := edX11_cell_31.2.2.2.2.2.2.2.2.2.2.2.2.1
def dX11_cell_59 := edX11_cell_31.2.2.2.2.2.2.2.2.2.2.2.2.2.1
def dX11_cell_60 := edX11_cell_31.2.2.2.2.2.2.2.2.2.2.2.2.2.2.1
def dX11_cell_61 := edX11_cell_31.2.2.2.2.2.2.2.2.2.2.2.2.2.2.2
theorem edX11_cell_64 : (decode cX11_cell 64 = .ok (.ldc2_w 239, 3)) ∧ (decode cX11_cell 67 = .ok (.lreturn, 1)) ∧ (decode cX11_cell 68 = .ok (.aload 4, 2)) ∧ (decode cX11_cell 70 = .ok (.getfield 135, 3)) ∧ (decode cX11_cell 73 = .ok (.iload_n 2, 1)) ∧ (decode cX11_cell 74 = .ok (.invokestatic 181, 3)) ∧ (decode cX11_cell 77 = .ok (.i2l, 1)) ∧ (decode cX11_cell 78 = .ok (.lreturn, 1)) := by decide +kernel
def dX11_cell_64 := edX11_cell_64.1
def dX11_cell_67 := edX11_cell_64.2.1
def dX11_cell_68 := edX11_cell_64.2.2.1
def dX11_cell_70 := edX11_cell_64.2.2.2.1
def dX11_cell_73 := edX11_cell_64.2.2.2.2.1
def dX11_cell_74 := edX11_cell_64.2.2.2.2.2.1
def dX11_cell_77 := edX11_cell_64.2.2.2.2.2.2.1
def dX11_cell_78 := edX11_cell_64.2.2.2.2.2.2.2
set_option maxRecDepth 100000 in
theorem ggX11_copy_X11_sheetAt : GoodIn wsX11_copy wsX11_sheetAt := goodIn_ca (b := wsX110) (goodIn_s _ [14] [13] (by decide +kernel) rfl (by decide +kernel)) (goodIn_sub (fun w h => List.mem_cons_of_mem _ (List.mem_append_left _ (List.mem_append_right _ h))) gs_wsX110)
set_option maxRecDepth 20000 in
theorem gX11_copy_X11_sheetAt : GoodIn wsX11_copy (wsV RX11 113 RX11 yX11_sheetAt wsX11_sheetAt) := goodIn_app (goodIn_of _ (by decide +kernel)) ggX11_copy_X11_sheetAt
set_option maxRecDepth 100000 in
theorem ggX11_copy_X11_faulted : GoodIn wsX11_copy wsX11_faulted := goodIn_ca (b := wsX110) (goodIn_s _ [1] [18] (by decide +kernel) rfl (by decide +kernel)) (goodIn_sub (fun w h => List.mem_cons_of_mem _ (List.mem_append_left _ (List.mem_append_right _ h))) gs_wsX110)
set_option maxRecDepth 20000 in
theorem gX11_copy_X11_faulted : GoodIn wsX11_copy (wsV RX11 124 RX11 yX11_faulted wsX11_faulted) := goodIn_app (goodIn_of _ (by decide +kernel)) ggX11_copy_X11_faulted
set_option maxRecDepth 100000 in
theorem ggX11_copy_X6_holds : GoodIn wsX11_copy wsX6_holds := goodIn_ca (b := wsX60) (goodIn_s _ [24] [23] (by decide +kernel) rfl (by decide +kernel)) (goodIn_sub (fun w h => List.mem_cons_of_mem _ (List.mem_append_right _ h)) gs_wsX60)
