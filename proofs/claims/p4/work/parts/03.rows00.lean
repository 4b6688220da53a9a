theorem edX0_init_0 : (decode cX0_init 0 = .ok (.aload_n 0, 1)) ∧ (decode cX0_init 1 = .ok (.invokespecial 3, 3)) ∧ (decode cX0_init 4 = .ok (.aload_n 0, 1)) ∧ (decode cX0_init 5 = .ok (.bipush 10, 2)) ∧ (decode cX0_init 7 = .ok (.newarray .int, 2)) ∧ (decode cX0_init 9 = .ok (.putfield 9, 3)) ∧ (decode cX0_init 12 = .ok (.aload_n 0, 1)) ∧ (decode cX0_init 13 = .ok (.iconst 1, 1)) ∧ (decode cX0_init 14 = .ok (.putfield 15, 3)) ∧ (decode cX0_init 17 = .ok (.aload_n 0, 1)) ∧ (decode cX0_init 18 = .ok (.sipush 1000, 3)) ∧ (decode cX0_init 21 = .ok (.putfield 19, 3)) ∧ (decode cX0_init 24 = .ok (.aload_n 0, 1)) ∧ (decode cX0_init 25 = .ok (.iload_n 1, 1)) ∧ (decode cX0_init 26 = .ok (.putfield 22, 3)) ∧ (decode cX0_init 29 = .ok (.aload_n 0, 1)) := by decide +kernel
def dX0_init_0 := edX0_init_0.1
def dX0_init_1 := edX0_init_0.2.1
def dX0_init_4 := edX0_init_0.2.2.1
def dX0_init_5 := edX0_init_0.2.2.2.1
def dX0_init_7 := edX0_init_0.2.2.2.2.1
def dX0_init_9 := edX0_init_0.2.2.2.2.2.1
def dX0_init_12 := edX0_init_0.2.2.2.2.2.2.1
def dX0_init_13 := edX0_init_0.2.2.2.2.2.2.2.1
def dX0_init_14 := edX0_init_0.2.2.2.2.2.2.2.2.1
def dX0_init_17 := edX0_init_0.2.2.2.2.2.2.2.2.2.1
def dX0_init_18 := edX0_init_0.2.2.2.2.2.2.2.2.2.2.1
def dX0_init_21 := edX0_init_0.2.2.2.2.2.2.2.2.2.2.2.1
def dX0_init_24 := edX0_init_0.2.2.2.2.2.2.2.2.2.2.2.2.1
def dX0_init_25 := edX0_init_0.2.2.2.2.2.2.2.2.2.2.2.2.2.1
def dX0_init_26 := edX0_init_0.2.2.2.2.2.2.2.2.2.2.2.2.2.2.1
def dX0_init_29 := edX0_init_0.2.2.2.2.2.2.2.2.2.2.2.2.2.2.2
theorem edX0_init_30 : (decode cX0_init 30 = .ok (.iload_n 2, 1)) ∧ (decode cX0_init 31 = .ok (.putfield 25, 3)) ∧ (decode cX0_init 34 = .ok (.aload_n 0, 1)) ∧ (decode cX0_init 35 = .ok (.iload_n 3, 1)) ∧ (decode cX0_init 36 = .ok (.putfield 28, 3)) ∧ (decode cX0_init 39 = .ok (.return_, 1)) := by decide +kernel
def dX0_init_30 := edX0_init_30.1
def dX0_init_31 := edX0_init_30.2.1
def dX0_init_34 := edX0_init_30.2.2.1
def dX0_init_35 := edX0_init_30.2.2.2.1
def dX0_init_36 := edX0_init_30.2.2.2.2.1
def dX0_init_39 := edX0_init_30.2.2.2.2.2
theorem edX0_kind_0 : (decode cX0_kind 0 = .ok (.iconst 0, 1)) ∧ (decode cX0_kind 1 = .ok (.ireturn, 1)) := by decide +kernel
def dX0_kind_0 := edX0_kind_0.1
def dX0_kind_1 := edX0_kind_0.2
theorem edX0_room_0 : (decode cX0_room 0 = .ok (.aload_n 0, 1)) ∧ (decode cX0_room 1 = .ok (.getfield 25, 3)) ∧ (decode cX0_room 4 = .ok (.aload_n 0, 1)) ∧ (decode cX0_room 5 = .ok (.getfield 28, 3)) ∧ (decode cX0_room 8 = .ok (.imul, 1)) ∧ (decode cX0_room 9 = .ok (.ireturn, 1)) := by decide +kernel
def dX0_room_0 := edX0_room_0.1
def dX0_room_1 := edX0_room_0.2.1
def dX0_room_4 := edX0_room_0.2.2.1
def dX0_room_5 := edX0_room_0.2.2.2.1
def dX0_room_8 := edX0_room_0.2.2.2.2.1
def dX0_room_9 := edX0_room_0.2.2.2.2.2
set_option maxRecDepth 100000 in
theorem ggX0_loadAt_X0_room : GoodIn wsX0_loadAt wsX0_room := goodIn_ca (b := wsX100) (goodIn_ca (b := wsX20) (goodIn_ca (b := wsX00) (goodIn_s _ [12, 13] [11] (by decide +kernel) rfl (by decide +kernel)) (goodIn_sub (fun w h => List.mem_cons_of_mem _ (List.mem_append_left _ (List.mem_append_left _ (List.mem_append_right _ h)))) gs_wsX00)) (goodIn_sub (fun w h => List.mem_cons_of_mem _ (List.mem_append_left _ (List.mem_append_right _ h))) gs_wsX20)) (goodIn_sub (fun w h => List.mem_cons_of_mem _ (List.mem_append_right _ h)) gs_wsX100)
set_option maxRecDepth 20000 in
theorem gX0_loadAt_X0_room : GoodIn wsX0_loadAt (wsV RX0 31 RX0 yX0_room wsX0_room) := goodIn_app (goodIn_of _ (by decide +kernel)) ggX0_loadAt_X0_room
set_option maxRecDepth 20000 in
theorem gX0_loadAt_X0_room_u31X2 : GoodIn wsX0_loadAt (va_wsU RX0 31 RX2 "OilPush$Cylinder" ⟨"OilPush$Cylinder", "room", "()I"⟩ yX0_room wsX0_room) := goodIn_app (goodIn_of _ (by decide +kernel)) ggX0_loadAt_X0_room
set_option maxRecDepth 20000 in
theorem gX0_loadAt_X0_room_u31X10 : GoodIn wsX0_loadAt (va_wsU RX0 31 RX10 "OilPush$Cylinder" ⟨"OilPush$Cylinder", "room", "()I"⟩ yX0_room wsX0_room) := goodIn_app (goodIn_of _ (by decide +kernel)) ggX0_loadAt_X0_room
set_option maxRecDepth 100000 in
theorem ggX0_loadAt_X11_get : GoodIn wsX0_loadAt wsX11_get := goodIn_s _ [] [20] (by decide +kernel) rfl (by decide +kernel)
set_option maxRecDepth 20000 in
theorem gX0_loadAt_X11_get_n41 : GoodIn wsX0_loadAt (wsX11_get) := ggX0_loadAt_X11_get
theorem edX0_loadAt_0 : (decode cX0_loadAt 0 = .ok (.aload_n 0, 1)) ∧ (decode cX0_loadAt 1 = .ok (.invokevirtual 31, 3)) ∧ (decode cX0_loadAt 4 = .ok (.istore_n 2, 1)) ∧ (decode cX0_loadAt 5 = .ok (.iload_n 2, 1)) ∧ (decode cX0_loadAt 6 = .ok (.ifCond .gt 5, 3)) ∧ (decode cX0_loadAt 9 = .ok (.iconst 0, 1)) ∧ (decode cX0_loadAt 10 = .ok (.ireturn, 1)) ∧ (decode cX0_loadAt 11 = .ok (.aload_n 0, 1)) ∧ (decode cX0_loadAt 12 = .ok (.getfield 9, 3)) ∧ (decode cX0_loadAt 15 = .ok (.iload_n 1, 1)) ∧ (decode cX0_loadAt 16 = .ok (.aload_n 0, 1)) ∧ (decode cX0_loadAt 17 = .ok (.getfield 15, 3)) ∧ (decode cX0_loadAt 20 = .ok (.imul, 1)) ∧ (decode cX0_loadAt 21 = .ok (.iload_n 2, 1)) ∧ (decode cX0_loadAt 22 = .ok (.idiv, 1)) ∧ (decode cX0_loadAt 23 = .ok (.aload_n 0, 1)) := by decide +kernel
def dX0_loadAt_0 := edX0_loadAt_0.1
def dX0_loadAt_1 := edX0_loadAt_0.2.1
def dX0_loadAt_4 := edX0_loadAt_0.2.2.1
def dX0_loadAt_5 := edX0_loadAt_0.2.2.2.1
def dX0_loadAt_6 := edX0_loadAt_0.2.2.2.2.1
def dX0_loadAt_9 := edX0_loadAt_0.2.2.2.2.2.1
def dX0_loadAt_10 := edX0_loadAt_0.2.2.2.2.2.2.1
def dX0_loadAt_11 := edX0_loadAt_0.2.2.2.2.2.2.2.1
def dX0_loadAt_12 := edX0_loadAt_0.2.2.2.2.2.2.2.2.1
def dX0_loadAt_15 := edX0_loadAt_0.2.2.2.2.2.2.2.2.2.1
def dX0_loadAt_16 := edX0_loadAt_0.2.2.2.2.2.2.2.2.2.2.1
def dX0_loadAt_17 := edX0_loadAt_0.2.2.2.2.2.2.2.2.2.2.2.1
def dX0_loadAt_20 := edX0_loadAt_0.2.2.2.2.2.2.2.2.2.2.2.2.1
def dX0_loadAt_21 := edX0_loadAt_0.2.2.2.2.2.2.2.2.2.2.2.2.2.1
def dX0_loadAt_22 := edX0_loadAt_0.2.2.2.2.2.2.2.2.2.2.2.2.2.2.1
def dX0_loadAt_23 := edX0_loadAt_0.2.2.2.2.2.2.2.2.2.2.2.2.2.2.2
theorem edX0_loadAt_24 : (decode cX0_loadAt 24 = .ok (.getfield 15, 3)) ∧ (decode cX0_loadAt 27 = .ok (.iconst 1, 1)) ∧ (decode cX0_loadAt 28 = .ok (.isub, 1)) ∧ (decode cX0_loadAt 29 = .ok (.invokestatic 35, 3)) ∧ (decode cX0_loadAt 32 = .ok (.invokestatic 41, 3)) ∧ (decode cX0_loadAt 35 = .ok (.ireturn, 1)) := by decide +kernel
def dX0_loadAt_24 := edX0_loadAt_24.1
def dX0_loadAt_27 := edX0_loadAt_24.2.1
def dX0_loadAt_28 := edX0_loadAt_24.2.2.1
def dX0_loadAt_29 := edX0_loadAt_24.2.2.2.1
def dX0_loadAt_32 := edX0_loadAt_24.2.2.2.2.1
def dX0_loadAt_35 := edX0_loadAt_24.2.2.2.2.2
theorem edX0_pushAgainst_0 : (decode cX0_pushAgainst 0 = .ok (.aload_n 0, 1)) ∧ (decode cX0_pushAgainst 1 = .ok (.getfield 25, 3)) ∧ (decode cX0_pushAgainst 4 = .ok (.ifCond .gt 7, 3)) ∧ (decode cX0_pushAgainst 7 = .ok (.iconst 0, 1)) ∧ (decode cX0_pushAgainst 8 = .ok (.goto 16, 3)) ∧ (decode cX0_pushAgainst 11 = .ok (.iload_n 1, 1)) ∧ (decode cX0_pushAgainst 12 = .ok (.aload_n 0, 1)) ∧ (decode cX0_pushAgainst 13 = .ok (.getfield 25, 3)) ∧ (decode cX0_pushAgainst 16 = .ok (.iadd, 1)) ∧ (decode cX0_pushAgainst 17 = .ok (.iconst 1, 1)) ∧ (decode cX0_pushAgainst 18 = .ok (.isub, 1)) ∧ (decode cX0_pushAgainst 19 = .ok (.aload_n 0, 1)) ∧ (decode cX0_pushAgainst 20 = .ok (.getfield 25, 3)) ∧ (decode cX0_pushAgainst 23 = .ok (.idiv, 1)) ∧ (decode cX0_pushAgainst 24 = .ok (.ireturn, 1)) := by decide +kernel
def dX0_pushAgainst_0 := edX0_pushAgainst_0.1
def dX0_pushAgainst_1 := edX0_pushAgainst_0.2.1
def dX0_pushAgainst_4 := edX0_pushAgainst_0.2.2.1
def dX0_pushAgainst_7 := edX0_pushAgainst_0.2.2.2.1
def dX0_pushAgainst_8 := edX0_pushAgainst_0.2.2.2.2.1
def dX0_pushAgainst_11 := edX0_pushAgainst_0.2.2.2.2.2.1
def dX0_pushAgainst_12 := edX0_pushAgainst_0.2.2.2.2.2.2.1
def dX0_pushAgainst_13 := edX0_pushAgainst_0.2.2.2.2.2.2.2.1
def dX0_pushAgainst_16 := edX0_pushAgainst_0.2.2.2.2.2.2.2.2.1
def dX0_pushAgainst_17 := edX0_pushAgainst_0.2.2.2.2.2.2.2.2.2.1
def dX0_pushAgainst_18 := edX0_pushAgainst_0.2.2.2.2.2.2.2.2.2.2.1
def dX0_pushAgainst_19 := edX0_pushAgainst_0.2.2.2.2.2.2.2.2.2.2.2.1
def dX0_pushAgainst_20 := edX0_pushAgainst_0.2.2.2.2.2.2.2.2.2.2.2.2.1
def dX0_pushAgainst_23 := edX0_pushAgainst_0.2.2.2.2.2.2.2.2.2.2.2.2.2.1
def dX0_pushAgainst_24 := edX0_pushAgainst_0.2.2.2.2.2.2.2.2.2.2.2.2.2.2
set_option maxRecDepth 100000 in
theorem ggX0_needAt_X0_loadAt : GoodIn wsX0_needAt wsX0_loadAt := goodIn_ca (b := wsX100) (goodIn_ca (b := wsX20) (goodIn_ca (b := wsX00) (goodIn_s _ [7, 8, 9, 10, 11, 13, 14, 15, 5, 17, 18, 19, 20, 21, 22, 23, 24] [6, 12, 16, 25] (by decide +kernel) rfl (by decide +kernel)) (goodIn_sub (fun w h => List.mem_cons_of_mem _ (List.mem_append_left _ (List.mem_append_left _ (List.mem_append_right _ h)))) gs_wsX00)) (goodIn_sub (fun w h => List.mem_cons_of_mem _ (List.mem_append_left _ (List.mem_append_right _ h))) gs_wsX20)) (goodIn_sub (fun w h => List.mem_cons_of_mem _ (List.mem_append_right _ h)) gs_wsX100)
set_option maxRecDepth 20000 in
theorem gX0_needAt_X0_loadAt : GoodIn wsX0_needAt (wsV RX0 45 RX0 yX0_loadAt wsX0_loadAt) := goodIn_app (goodIn_of _ (by decide +kernel)) ggX0_needAt_X0_loadAt
set_option maxRecDepth 20000 in
theorem gX0_needAt_X0_loadAt_u45X2 : GoodIn wsX0_needAt (va_wsU RX0 45 RX2 "OilPush$Cylinder" ⟨"OilPush$Cylinder", "loadAt", "(I)I"⟩ yX0_loadAt wsX0_loadAt) := goodIn_app (goodIn_of _ (by decide +kernel)) ggX0_needAt_X0_loadAt
set_option maxRecDepth 20000 in
theorem gX0_needAt_X0_loadAt_u45X10 : GoodIn wsX0_needAt (va_wsU RX0 45 RX10 "OilPush$Cylinder" ⟨"OilPush$Cylinder", "loadAt", "(I)I"⟩ yX0_loadAt wsX0_loadAt) := goodIn_app (goodIn_of _ (by decide +kernel)) ggX0_needAt_X0_loadAt
set_option maxRecDepth 100000 in
theorem ggX0_needAt_X0_pushAgainst : GoodIn wsX0_needAt wsX0_pushAgainst := goodIn_ca (b := wsX100) (goodIn_ca (b := wsX20) (goodIn_ca (b := wsX00) (goodIn_s _ [17] [33] (by decide +kernel) rfl (by decide +kernel)) (goodIn_sub (fun w h => List.mem_cons_of_mem _ (List.mem_append_left _ (List.mem_append_left _ (List.mem_append_right _ h)))) gs_wsX00)) (goodIn_sub (fun w h => List.mem_cons_of_mem _ (List.mem_append_left _ (List.mem_append_right _ h))) gs_wsX20)) (goodIn_sub (fun w h => List.mem_cons_of_mem _ (List.mem_append_right _ h)) gs_wsX100)
set_option maxRecDepth 20000 in
theorem gX0_needAt_X0_pushAgainst : GoodIn wsX0_needAt (wsV RX0 49 RX0 yX0_pushAgainst wsX0_pushAgainst) := goodIn_app (goodIn_of _ (by decide +kernel)) ggX0_needAt_X0_pushAgainst
set_option maxRecDepth 20000 in
theorem gX0_needAt_X0_pushAgainst_u49X2 : GoodIn wsX0_needAt (va_wsU RX0 49 RX2 "OilPush$Cylinder" ⟨"OilPush$Cylinder", "pushAgainst", "(I)I"⟩ yX0_pushAgainst wsX0_pushAgainst) := goodIn_app (goodIn_of _ (by decide +kernel)) ggX0_needAt_X0_pushAgainst
set_option maxRecDepth 100000 in
theorem ggX0_needAt_X10_pushAgainst : GoodIn wsX0_needAt wsX10_pushAgainst := goodIn_s _ [] [41] (by decide +kernel) rfl (by decide +kernel)
set_option maxRecDepth 20000 in
theorem gX0_needAt_X10_pushAgainst_u49X10 : GoodIn wsX0_needAt (va_wsO RX0 49 RX10 "OilPush$Cylinder" ⟨"OilPush$Cylinder", "pushAgainst", "(I)I"⟩ yX10_pushAgainst wsX10_pushAgainst) := goodIn_app (goodIn_of _ (by decide +kernel)) ggX0_needAt_X10_pushAgainst
theorem edX0_needAt_0 : (decode cX0_needAt 0 = .ok (.aload_n 0, 1)) ∧ (decode cX0_needAt 1 = .ok (.aload_n 0, 1)) ∧ (decode cX0_needAt 2 = .ok (.iload_n 1, 1)) ∧ (decode cX0_needAt 3 = .ok (.invokevirtual 45, 3)) ∧ (decode cX0_needAt 6 = .ok (.invokevirtual 49, 3)) ∧ (decode cX0_needAt 9 = .ok (.aload_n 0, 1)) ∧ (decode cX0_needAt 10 = .ok (.getfield 52, 3)) ∧ (decode cX0_needAt 13 = .ok (.iadd, 1)) ∧ (decode cX0_needAt 14 = .ok (.ireturn, 1)) := by decide +kernel
def dX0_needAt_0 := edX0_needAt_0.1
def dX0_needAt_1 := edX0_needAt_0.2.1
def dX0_needAt_2 := edX0_needAt_0.2.2.1
def dX0_needAt_3 := edX0_needAt_0.2.2.2.1
def dX0_needAt_6 := edX0_needAt_0.2.2.2.2.1
def dX0_needAt_9 := edX0_needAt_0.2.2.2.2.2.1
def dX0_needAt_10 := edX0_needAt_0.2.2.2.2.2.2.1
def dX0_needAt_13 := edX0_needAt_0.2.2.2.2.2.2.2.1
def dX0_needAt_14 := edX0_needAt_0.2.2.2.2.2.2.2.2
set_option maxRecDepth 100000 in
theorem ggX0_isAt_X0_room : GoodIn wsX0_isAt wsX0_room := goodIn_ca (b := wsX100) (goodIn_ca (b := wsX20) (goodIn_ca (b := wsX00) (goodIn_s _ [6, 7] [5] (by decide +kernel) rfl (by decide +kernel)) (goodIn_sub (fun w h => List.mem_cons_of_mem _ (List.mem_append_left _ (List.mem_append_left _ (List.mem_append_right _ h)))) gs_wsX00)) (goodIn_sub (fun w h => List.mem_cons_of_mem _ (List.mem_append_left _ (List.mem_append_right _ h))) gs_wsX20)) (goodIn_sub (fun w h => List.mem_cons_of_mem _ (List.mem_append_right _ h)) gs_wsX100)
set_option maxRecDepth 20000 in
theorem gX0_isAt_X0_room : GoodIn wsX0_isAt (wsV RX0 31 RX0 yX0_room wsX0_room) := goodIn_app (goodIn_of _ (by decide +kernel)) ggX0_isAt_X0_room
set_option maxRecDepth 20000 in
theorem gX0_isAt_X0_room_u31X2 : GoodIn wsX0_isAt (va_wsU RX0 31 RX2 "OilPush$Cylinder" ⟨"OilPush$Cylinder", "room", "()I"⟩ yX0_room wsX0_room) := goodIn_app (goodIn_of _ (by decide +kernel)) ggX0_isAt_X0_room
set_option maxRecDepth 20000 in
theorem gX0_isAt_X0_room_u31X10 : GoodIn wsX0_isAt (va_wsU RX0 31 RX10 "OilPush$Cylinder" ⟨"OilPush$Cylinder", "room", "()I"⟩ yX0_room wsX0_room) := goodIn_app (goodIn_of _ (by decide +kernel)) ggX0_isAt_X0_room
theorem edX0_isAt_0 : (decode cX0_isAt 0 = .ok (.iload_n 1, 1)) ∧ (decode cX0_isAt 1 = .ok (.ifCond .eq 20, 3)) ∧ (decode cX0_isAt 4 = .ok (.iload_n 2, 1)) ∧ (decode cX0_isAt 5 = .ok (.iload_n 1, 1)) ∧ (decode cX0_isAt 6 = .ok (.iconst 1, 1)) ∧ (decode cX0_isAt 7 = .ok (.if_icmp .ne 10, 3)) ∧ (decode cX0_isAt 10 = .ok (.aload_n 0, 1)) ∧ (decode cX0_isAt 11 = .ok (.invokevirtual 31, 3)) ∧ (decode cX0_isAt 14 = .ok (.goto 4, 3)) ∧ (decode cX0_isAt 17 = .ok (.iconst 0, 1)) ∧ (decode cX0_isAt 18 = .ok (.if_icmp .ne 7, 3)) ∧ (decode cX0_isAt 21 = .ok (.iconst 1, 1)) ∧ (decode cX0_isAt 22 = .ok (.goto 4, 3)) ∧ (decode cX0_isAt 25 = .ok (.iconst 0, 1)) ∧ (decode cX0_isAt 26 = .ok (.ireturn, 1)) := by decide +kernel
def dX0_isAt_0 := edX0_isAt_0.1
def dX0_isAt_1 := edX0_isAt_0.2.1
def dX0_isAt_4 := edX0_isAt_0.2.2.1
def dX0_isAt_5 := edX0_isAt_0.2.2.2.1
def dX0_isAt_6 := edX0_isAt_0.2.2.2.2.1
def dX0_isAt_7 := edX0_isAt_0.2.2.2.2.2.1
def dX0_isAt_10 := edX0_isAt_0.2.2.2.2.2.2.1
def dX0_isAt_11 := edX0_isAt_0.2.2.2.2.2.2.2.1
def dX0_isAt_14 := edX0_isAt_0.2.2.2.2.2.2.2.2.1
def dX0_isAt_17 := edX0_isAt_0.2.2.2.2.2.2.2.2.2.1
def dX0_isAt_18 := edX0_isAt_0.2.2.2.2.2.2.2.2.2.2.1
def dX0_isAt_21 := edX0_isAt_0.2.2.2.2.2.2.2.2.2.2.2.1
def dX0_isAt_22 := edX0_isAt_0.2.2.2.2.2.2.2.2.2.2.2.2.1
def dX0_isAt_25 := edX0_isAt_0.2.2.2.2.2.2.2.2.2.2.2.2.2.1
def dX0_isAt_26 := edX0_isAt_0.2.2.2.2.2.2.2.2.2.2.2.2.2.2
theorem edX0_newCrack_0 : (decode cX0_newCrack 0 = .ok (.aload_n 0, 1)) ∧ (decode cX0_newCrack 1 = .ok (.getfield 52, 3)) ∧ (decode cX0_newCrack 4 = .ok (.istore_n 2, 1)) ∧ (decode cX0_newCrack 5 = .ok (.aload_n 0, 1)) ∧ (decode cX0_newCrack 6 = .ok (.iload_n 1, 1)) ∧ (decode cX0_newCrack 7 = .ok (.putfield 52, 3)) ∧ (decode cX0_newCrack 10 = .ok (.iload_n 2, 1)) ∧ (decode cX0_newCrack 11 = .ok (.ireturn, 1)) := by decide +kernel
def dX0_newCrack_0 := edX0_newCrack_0.1
def dX0_newCrack_1 := edX0_newCrack_0.2.1
def dX0_newCrack_4 := edX0_newCrack_0.2.2.1
def dX0_newCrack_5 := edX0_newCrack_0.2.2.2.1
def dX0_newCrack_6 := edX0_newCrack_0.2.2.2.2.1
def dX0_newCrack_7 := edX0_newCrack_0.2.2.2.2.2.1
def dX0_newCrack_10 := edX0_newCrack_0.2.2.2.2.2.2.1
def dX0_newCrack_11 := edX0_newCrack_0.2.2.2.2.2.2.2
theorem edX0_newFlow_0 : (decode cX0_newFlow 0 = .ok (.aload_n 0, 1)) ∧ (decode cX0_newFlow 1 = .ok (.getfield 19, 3)) ∧ (decode cX0_newFlow 4 = .ok (.istore_n 2, 1)) ∧ (decode cX0_newFlow 5 = .ok (.aload_n 0, 1)) ∧ (decode cX0_newFlow 6 = .ok (.iload_n 1, 1)) ∧ (decode cX0_newFlow 7 = .ok (.putfield 19, 3)) ∧ (decode cX0_newFlow 10 = .ok (.iload_n 2, 1)) ∧ (decode cX0_newFlow 11 = .ok (.ireturn, 1)) := by decide +kernel
def dX0_newFlow_0 := edX0_newFlow_0.1
def dX0_newFlow_1 := edX0_newFlow_0.2.1
def dX0_newFlow_4 := edX0_newFlow_0.2.2.1
def dX0_newFlow_5 := edX0_newFlow_0.2.2.2.1
def dX0_newFlow_6 := edX0_newFlow_0.2.2.2.2.1
def dX0_newFlow_7 := edX0_newFlow_0.2.2.2.2.2.1
def dX0_newFlow_10 := edX0_newFlow_0.2.2.2.2.2.2.1
def dX0_newFlow_11 := edX0_newFlow_0.2.2.2.2.2.2.2
set_option maxRecDepth 100000 in
theorem ggX0_newLoads_X11_get : GoodIn wsX0_newLoads wsX11_get := goodIn_s _ [] [5] (by decide +kernel) rfl (by decide +kernel)
set_option maxRecDepth 20000 in
theorem gX0_newLoads_X11_get_n41 : GoodIn wsX0_newLoads (wsX11_get) := ggX0_newLoads_X11_get
set_option maxRecDepth 100000 in
theorem ggX0_newLoads_X11_set : GoodIn wsX0_newLoads wsX11_set := goodIn_s _ [] [7] (by decide +kernel) rfl (by decide +kernel)
set_option maxRecDepth 20000 in
theorem gX0_newLoads_X11_set_n55 : GoodIn wsX0_newLoads (wsX11_set) := ggX0_newLoads_X11_set
theorem edX0_newLoads_0 : (decode cX0_newLoads 0 = .ok (.aload_n 0, 1)) ∧ (decode cX0_newLoads 1 = .ok (.iload_n 3, 1)) ∧ (decode cX0_newLoads 2 = .ok (.putfield 15, 3)) ∧ (decode cX0_newLoads 5 = .ok (.iconst 0, 1)) ∧ (decode cX0_newLoads 6 = .ok (.istore 4, 2)) ∧ (decode cX0_newLoads 8 = .ok (.iload 4, 2)) ∧ (decode cX0_newLoads 10 = .ok (.iload_n 3, 1)) ∧ (decode cX0_newLoads 11 = .ok (.if_icmp .ge 26, 3)) ∧ (decode cX0_newLoads 14 = .ok (.aload_n 0, 1)) ∧ (decode cX0_newLoads 15 = .ok (.getfield 9, 3)) ∧ (decode cX0_newLoads 18 = .ok (.iload 4, 2)) ∧ (decode cX0_newLoads 20 = .ok (.aload_n 1, 1)) ∧ (decode cX0_newLoads 21 = .ok (.iload_n 2, 1)) ∧ (decode cX0_newLoads 22 = .ok (.iload 4, 2)) ∧ (decode cX0_newLoads 24 = .ok (.iadd, 1)) ∧ (decode cX0_newLoads 25 = .ok (.invokestatic 41, 3)) := by decide +kernel
def dX0_newLoads_0 := edX0_newLoads_0.1
def dX0_newLoads_1 := edX0_newLoads_0.2.1
def dX0_newLoads_2 := edX0_newLoads_0.2.2.1
def dX0_newLoads_5 := edX0_newLoads_0.2.2.2.1
def dX0_newLoads_6 := edX0_newLoads_0.2.2.2.2.1
def dX0_newLoads_8 := edX0_newLoads_0.2.2.2.2.2.1
def dX0_newLoads_10 := edX0_newLoads_0.2.2.2.2.2.2.1
def dX0_newLoads_11 := edX0_newLoads_0.2.2.2.2.2.2.2.1
def dX0_newLoads_14 := edX0_newLoads_0.2.2.2.2.2.2.2.2.1
def dX0_newLoads_15 := edX0_newLoads_0.2.2.2.2.2.2.2.2.2.1
def dX0_newLoads_18 := edX0_newLoads_0.2.2.2.2.2.2.2.2.2.2.1
def dX0_newLoads_20 := edX0_newLoads_0.2.2.2.2.2.2.2.2.2.2.2.1
def dX0_newLoads_21 := edX0_newLoads_0.2.2.2.2.2.2.2.2.2.2.2.2.1
def dX0_newLoads_22 := edX0_newLoads_0.2.2.2.2.2.2.2.2.2.2.2.2.2.1
def dX0_newLoads_24 := edX0_newLoads_0.2.2.2.2.2.2.2.2.2.2.2.2.2.2.1
def dX0_newLoads_25 := edX0_newLoads_0.2.2.2.2.2.2.2.2.2.2.2.2.2.2.2
theorem edX0_newLoads_28 : (decode cX0_newLoads 28 = .ok (.invokestatic 55, 3)) ∧ (decode cX0_newLoads 31 = .ok (.iinc 4 1, 3)) ∧ (decode cX0_newLoads 34 = .ok (.goto (-26), 3)) ∧ (decode cX0_newLoads 37 = .ok (.return_, 1)) := by decide +kernel
def dX0_newLoads_28 := edX0_newLoads_28.1
def dX0_newLoads_31 := edX0_newLoads_28.2.1
def dX0_newLoads_34 := edX0_newLoads_28.2.2.1
def dX0_newLoads_37 := edX0_newLoads_28.2.2.2
set_option maxRecDepth 100000 in
theorem ggX0_toldBy_X0_plainlyTold : GoodIn wsX0_toldBy wsX0_plainlyTold := goodIn_ca (b := wsX90) (goodIn_s _ [6, 7, 8, 9, 11] [5, 10] (by decide +kernel) rfl (by decide +kernel)) (goodIn_sub (fun w h => List.mem_cons_of_mem _ (List.mem_append_right _ h)) gs_wsX90)
set_option maxRecDepth 20000 in
theorem gX0_toldBy_X0_plainlyTold : GoodIn wsX0_toldBy (wsV RX0 59 RX0 yX0_plainlyTold wsX0_plainlyTold) := goodIn_app (goodIn_of _ (by decide +kernel)) ggX0_toldBy_X0_plainlyTold
theorem edX0_toldBy_0 : (decode cX0_toldBy 0 = .ok (.aload_n 0, 1)) ∧ (decode cX0_toldBy 1 = .ok (.aload_n 1, 1)) ∧ (decode cX0_toldBy 2 = .ok (.iload_n 2, 1)) ∧ (decode cX0_toldBy 3 = .ok (.invokevirtual 59, 3)) ∧ (decode cX0_toldBy 6 = .ok (.ireturn, 1)) := by decide +kernel
def dX0_toldBy_0 := edX0_toldBy_0.1
def dX0_toldBy_1 := edX0_toldBy_0.2.1
def dX0_toldBy_2 := edX0_toldBy_0.2.2.1
def dX0_toldBy_3 := edX0_toldBy_0.2.2.2.1
def dX0_toldBy_6 := edX0_toldBy_0.2.2.2.2
set_option maxRecDepth 100000 in
theorem ggX0_plainlyTold_X9_leave : GoodIn wsX0_plainlyTold wsX9_leave := goodIn_ca (b := wsX90) (goodIn_s _ [6] [5] (by decide +kernel) rfl (by decide +kernel)) (goodIn_sub (fun w h => List.mem_cons_of_mem _ (List.mem_append_right _ h)) gs_wsX90)
set_option maxRecDepth 20000 in
theorem gX0_plainlyTold_X9_leave : GoodIn wsX0_plainlyTold (wsV RX0 63 RX9 yX9_leave wsX9_leave) := goodIn_app (goodIn_of _ (by decide +kernel)) ggX0_plainlyTold_X9_leave
theorem edX0_plainlyTold_0 : (decode cX0_plainlyTold 0 = .ok (.aload_n 1, 1)) ∧ (decode cX0_plainlyTold 1 = .ok (.iconst 1, 1)) ∧ (decode cX0_plainlyTold 2 = .ok (.invokevirtual 63, 3)) ∧ (decode cX0_plainlyTold 5 = .ok (.iload_n 2, 1)) ∧ (decode cX0_plainlyTold 6 = .ok (.ireturn, 1)) := by decide +kernel
def dX0_plainlyTold_0 := edX0_plainlyTold_0.1
def dX0_plainlyTold_1 := edX0_plainlyTold_0.2.1
def dX0_plainlyTold_2 := edX0_plainlyTold_0.2.2.1
def dX0_plainlyTold_5 := edX0_plainlyTold_0.2.2.2.1
def dX0_plainlyTold_6 := edX0_plainlyTold_0.2.2.2.2
set_option maxRecDepth 100000 in
theorem ggX0_seenBy_X9_leave : GoodIn wsX0_seenBy wsX9_leave := goodIn_ca (b := wsX90) (goodIn_s _ [7] [6] (by decide +kernel) rfl (by decide +kernel)) (goodIn_sub (fun w h => List.mem_cons_of_mem _ (List.mem_append_right _ h)) gs_wsX90)
set_option maxRecDepth 20000 in
theorem gX0_seenBy_X9_leave : GoodIn wsX0_seenBy (wsV RX0 63 RX9 yX9_leave wsX9_leave) := goodIn_app (goodIn_of _ (by decide +kernel)) ggX0_seenBy_X9_leave
theorem edX0_seenBy_0 : (decode cX0_seenBy 0 = .ok (.aload_n 1, 1)) ∧ (decode cX0_seenBy 1 = .ok (.iconst 4, 1)) ∧ (decode cX0_seenBy 2 = .ok (.invokevirtual 63, 3)) ∧ (decode cX0_seenBy 5 = .ok (.aload_n 0, 1)) ∧ (decode cX0_seenBy 6 = .ok (.getfield 22, 3)) ∧ (decode cX0_seenBy 9 = .ok (.ireturn, 1)) := by decide +kernel
def dX0_seenBy_0 := edX0_seenBy_0.1
def dX0_seenBy_1 := edX0_seenBy_0.2.1
def dX0_seenBy_2 := edX0_seenBy_0.2.2.1
def dX0_seenBy_5 := edX0_seenBy_0.2.2.2.1
def dX0_seenBy_6 := edX0_seenBy_0.2.2.2.2.1
def dX0_seenBy_9 := edX0_seenBy_0.2.2.2.2.2
theorem edX1_init_0 : (decode cX1_init 0 = .ok (.aload_n 0, 1)) ∧ (decode cX1_init 1 = .ok (.invokespecial 3, 3)) ∧ (decode cX1_init 4 = .ok (.aload_n 0, 1)) ∧ (decode cX1_init 5 = .ok (.bipush 6, 2)) ∧ (decode cX1_init 7 = .ok (.newarray .int, 2)) ∧ (decode cX1_init 9 = .ok (.putfield 9, 3)) ∧ (decode cX1_init 12 = .ok (.aload_n 0, 1)) ∧ (decode cX1_init 13 = .ok (.bipush 6, 2)) ∧ (decode cX1_init 15 = .ok (.newarray .int, 2)) ∧ (decode cX1_init 17 = .ok (.putfield 15, 3)) ∧ (decode cX1_init 20 = .ok (.aload_n 0, 1)) ∧ (decode cX1_init 21 = .ok (.bipush 6, 2)) ∧ (decode cX1_init 23 = .ok (.newarray .int, 2)) ∧ (decode cX1_init 25 = .ok (.putfield 18, 3)) ∧ (decode cX1_init 28 = .ok (.aload_n 0, 1)) ∧ (decode cX1_init 29 = .ok (.bipush 6, 2)) := by decide +kernel
def dX1_init_0 := edX1_init_0.1
def dX1_init_1 := edX1_init_0.2.1
def dX1_init_4 := edX1_init_0.2.2.1
def dX1_init_5 := edX1_init_0.2.2.2.1
def dX1_init_7 := edX1_init_0.2.2.2.2.1
def dX1_init_9 := edX1_init_0.2.2.2.2.2.1
def dX1_init_12 := edX1_init_0.2.2.2.2.2.2.1
def dX1_init_13 := edX1_init_0.2.2.2.2.2.2.2.1
def dX1_init_15 := edX1_init_0.2.2.2.2.2.2.2.2.1
def dX1_init_17 := edX1_init_0.2.2.2.2.2.2.2.2.2.1
def dX1_init_20 := edX1_init_0.2.2.2.2.2.2.2.2.2.2.1
def dX1_init_21 := edX1_init_0.2.2.2.2.2.2.2.2.2.2.2.1
def dX1_init_23 := edX1_init_0.2.2.2.2.2.2.2.2.2.2.2.2.1
def dX1_init_25 := edX1_init_0.2.2.2.2.2.2.2.2.2.2.2.2.2.1
def dX1_init_28 := edX1_init_0.2.2.2.2.2.2.2.2.2.2.2.2.2.2.1
def dX1_init_29 := edX1_init_0.2.2.2.2.2.2.2.2.2.2.2.2.2.2.2
theorem edX1_init_31 : (decode cX1_init 31 = .ok (.newarray .int, 2)) ∧ (decode cX1_init 33 = .ok (.putfield 21, 3)) ∧ (decode cX1_init 36 = .ok (.aload_n 0, 1)) ∧ (decode cX1_init 37 = .ok (.bipush 6, 2)) ∧ (decode cX1_init 39 = .ok (.newarray .int, 2)) ∧ (decode cX1_init 41 = .ok (.putfield 24, 3)) ∧ (decode cX1_init 44 = .ok (.return_, 1)) := by decide +kernel
def dX1_init_31 := edX1_init_31.1
def dX1_init_33 := edX1_init_31.2.1
def dX1_init_36 := edX1_init_31.2.2.1
def dX1_init_37 := edX1_init_31.2.2.2.1
def dX1_init_39 := edX1_init_31.2.2.2.2.1
def dX1_init_41 := edX1_init_31.2.2.2.2.2.1
def dX1_init_44 := edX1_init_31.2.2.2.2.2.2
set_option maxRecDepth 100000 in
theorem ggX1_run_X4_at : GoodIn wsX1_run wsX4_at := goodIn_ca (b := wsX40) (goodIn_s _ [22, 23] [21] (by decide +kernel) rfl (by decide +kernel)) (goodIn_sub (fun w h => List.mem_cons_of_mem _ (List.mem_append_left _ (List.mem_append_left _ (List.mem_append_left _ (List.mem_append_left _ (List.mem_append_left _ (List.mem_append_right _ h))))))) gs_wsX40)
set_option maxRecDepth 20000 in
theorem gX1_run_X4_at : GoodIn wsX1_run (wsV RX1 27 RX4 yX4_at wsX4_at) := goodIn_app (goodIn_of _ (by decide +kernel)) ggX1_run_X4_at
set_option maxRecDepth 100000 in
theorem ggX1_run_X1_drain : GoodIn wsX1_run wsX1_drain := goodIn_ca (b := wsX100) (goodIn_ca (b := wsX20) (goodIn_ca (b := wsX00) (goodIn_ca (b := wsX70) (goodIn_s _ [29, 30, 7, 8, 9, 31, 32, 34, 35, 36, 27, 38, 39, 40, 41, 42, 43, 44, 45, 47, 48, 49, 50, 51, 52, 54, 55, 56, 57, 58, 59, 60, 61, 62, 63, 64] [28, 10, 33, 37, 46, 53, 65] (by decide +kernel) rfl (by decide +kernel)) (goodIn_sub (fun w h => List.mem_cons_of_mem _ (List.mem_append_left _ (List.mem_append_left _ (List.mem_append_left _ (List.mem_append_left _ (List.mem_append_right _ h)))))) gs_wsX70)) (goodIn_sub (fun w h => List.mem_cons_of_mem _ (List.mem_append_left _ (List.mem_append_left _ (List.mem_append_right _ h)))) gs_wsX00)) (goodIn_sub (fun w h => List.mem_cons_of_mem _ (List.mem_append_left _ (List.mem_append_right _ h))) gs_wsX20)) (goodIn_sub (fun w h => List.mem_cons_of_mem _ (List.mem_append_right _ h)) gs_wsX100)
set_option maxRecDepth 20000 in
theorem gX1_run_X1_drain : GoodIn wsX1_run (wsV RX1 33 RX1 yX1_drain wsX1_drain) := goodIn_app (goodIn_of _ (by decide +kernel)) ggX1_run_X1_drain
set_option maxRecDepth 100000 in
theorem ggX1_run_X11_set : GoodIn wsX1_run wsX11_set := goodIn_s _ [] [65] (by decide +kernel) rfl (by decide +kernel)
set_option maxRecDepth 20000 in
theorem gX1_run_X11_set_n37 : GoodIn wsX1_run (wsX11_set) := ggX1_run_X11_set
set_option maxRecDepth 100000 in
theorem ggX1_run_X1_lineUp : GoodIn wsX1_run wsX1_lineUp := goodIn_ca (b := wsX100) (goodIn_ca (b := wsX20) (goodIn_ca (b := wsX00) (goodIn_ca (b := wsX70) (goodIn_ca (b := wsX40) (goodIn_ca (b := wsX10) (goodIn_s _ [70, 71, 39, 40, 29, 72, 73, 41, 7, 8, 9, 4, 17, 18, 19, 20, 22, 23, 31, 32, 74, 75, 76, 45, 78, 79, 43, 44, 47, 48, 49, 50, 51, 52, 54, 55, 56, 57, 58, 59, 80, 61, 62, 63, 81, 82, 83, 85, 86, 87, 88, 89, 90, 91, 93, 94, 95, 96, 64, 97, 98, 99, 100, 101, 27, 103] [69, 10, 21, 33, 77, 46, 53, 84, 92, 65, 102] (by decide +kernel) rfl (by decide +kernel)) (goodIn_sub (fun w h => List.mem_cons_of_mem _ (List.mem_append_left _ (List.mem_append_left _ (List.mem_append_left _ (List.mem_append_left _ (List.mem_append_left _ (List.mem_append_left _ (List.mem_append_right _ h)))))))) gs_wsX10)) (goodIn_sub (fun w h => List.mem_cons_of_mem _ (List.mem_append_left _ (List.mem_append_left _ (List.mem_append_left _ (List.mem_append_left _ (List.mem_append_left _ (List.mem_append_right _ h))))))) gs_wsX40)) (goodIn_sub (fun w h => List.mem_cons_of_mem _ (List.mem_append_left _ (List.mem_append_left _ (List.mem_append_left _ (List.mem_append_left _ (List.mem_append_right _ h)))))) gs_wsX70)) (goodIn_sub (fun w h => List.mem_cons_of_mem _ (List.mem_append_left _ (List.mem_append_left _ (List.mem_append_right _ h)))) gs_wsX00)) (goodIn_sub (fun w h => List.mem_cons_of_mem _ (List.mem_append_left _ (List.mem_append_right _ h))) gs_wsX20)) (goodIn_sub (fun w h => List.mem_cons_of_mem _ (List.mem_append_right _ h)) gs_wsX100)
set_option maxRecDepth 20000 in
theorem gX1_run_X1_lineUp : GoodIn wsX1_run (wsV RX1 41 RX1 yX1_lineUp wsX1_lineUp) := goodIn_app (goodIn_of _ (by decide +kernel)) ggX1_run_X1_lineUp
set_option maxRecDepth 100000 in
theorem ggX1_run_X1_takeFromPump : GoodIn wsX1_run wsX1_takeFromPump := goodIn_ca (b := wsX70) (goodIn_ca (b := wsX10) (goodIn_s _ [108, 13, 70, 103, 73, 7, 8, 9, 109, 72, 14, 15, 31, 32, 110, 111, 112, 27, 1, 29, 64] [107, 10, 16, 33, 113, 65] (by decide +kernel) rfl (by decide +kernel)) (goodIn_sub (fun w h => List.mem_cons_of_mem _ (List.mem_append_left _ (List.mem_append_left _ (List.mem_append_left _ (List.mem_append_left _ (List.mem_append_left _ (List.mem_append_left _ (List.mem_append_right _ h)))))))) gs_wsX10)) (goodIn_sub (fun w h => List.mem_cons_of_mem _ (List.mem_append_left _ (List.mem_append_left _ (List.mem_append_left _ (List.mem_append_left _ (List.mem_append_right _ h)))))) gs_wsX70)
set_option maxRecDepth 20000 in
theorem gX1_run_X1_takeFromPump : GoodIn wsX1_run (wsV RX1 49 RX1 yX1_takeFromPump wsX1_takeFromPump) := goodIn_app (goodIn_of _ (by decide +kernel)) ggX1_run_X1_takeFromPump
set_option maxRecDepth 100000 in
theorem ggX1_run_X8_pressure : GoodIn wsX1_run wsX8_pressure := goodIn_ca (b := wsX80) (goodIn_s _ [119, 120, 121] [118] (by decide +kernel) rfl (by decide +kernel)) (goodIn_sub (fun w h => List.mem_cons_of_mem _ (List.mem_append_left _ (List.mem_append_left _ (List.mem_append_left _ (List.mem_append_right _ h))))) gs_wsX80)
set_option maxRecDepth 20000 in
theorem gX1_run_X8_pressure : GoodIn wsX1_run (wsV RX1 59 RX8 yX8_pressure wsX8_pressure) := goodIn_app (goodIn_of _ (by decide +kernel)) ggX1_run_X8_pressure
set_option maxRecDepth 100000 in
theorem ggX1_run_X1_addUp : GoodIn wsX1_run wsX1_addUp := goodIn_ca (b := wsX40) (goodIn_ca (b := wsX10) (goodIn_s _ [108, 109, 1, 126, 13, 72, 127, 11, 12, 4, 128, 2, 31, 32] [125, 33] (by decide +kernel) rfl (by decide +kernel)) (goodIn_sub (fun w h => List.mem_cons_of_mem _ (List.mem_append_left _ (List.mem_append_left _ (List.mem_append_left _ (List.mem_append_left _ (List.mem_append_left _ (List.mem_append_left _ (List.mem_append_right _ h)))))))) gs_wsX10)) (goodIn_sub (fun w h => List.mem_cons_of_mem _ (List.mem_append_left _ (List.mem_append_left _ (List.mem_append_left _ (List.mem_append_left _ (List.mem_append_left _ (List.mem_append_right _ h))))))) gs_wsX40)
set_option maxRecDepth 20000 in
theorem gX1_run_X1_addUp : GoodIn wsX1_run (wsV RX1 91 RX1 yX1_addUp wsX1_addUp) := goodIn_app (goodIn_of _ (by decide +kernel)) ggX1_run_X1_addUp
set_option maxRecDepth 100000 in
theorem ggX1_run_X1_takeFromStore : GoodIn wsX1_run wsX1_takeFromStore := goodIn_ca (b := wsX80) (goodIn_ca (b := wsX70) (goodIn_ca (b := wsX10) (goodIn_s _ [70, 103, 3, 72, 73, 1, 6, 7, 8, 9, 11, 31, 32, 114, 115, 116, 117, 119, 120, 121, 110, 111, 112, 27, 29, 64] [132, 10, 33, 118, 113, 65] (by decide +kernel) rfl (by decide +kernel)) (goodIn_sub (fun w h => List.mem_cons_of_mem _ (List.mem_append_left _ (List.mem_append_left _ (List.mem_append_left _ (List.mem_append_left _ (List.mem_append_left _ (List.mem_append_left _ (List.mem_append_right _ h)))))))) gs_wsX10)) (goodIn_sub (fun w h => List.mem_cons_of_mem _ (List.mem_append_left _ (List.mem_append_left _ (List.mem_append_left _ (List.mem_append_left _ (List.mem_append_right _ h)))))) gs_wsX70)) (goodIn_sub (fun w h => List.mem_cons_of_mem _ (List.mem_append_left _ (List.mem_append_left _ (List.mem_append_left _ (List.mem_append_right _ h))))) gs_wsX80)
set_option maxRecDepth 20000 in
theorem gX1_run_X1_takeFromStore : GoodIn wsX1_run (wsV RX1 95 RX1 yX1_takeFromStore wsX1_takeFromStore) := goodIn_app (goodIn_of _ (by decide +kernel)) ggX1_run_X1_takeFromStore
theorem edX1_run_0 : (decode cX1_run 0 = .ok (.iconst 0, 1)) ∧ (decode cX1_run 1 = .ok (.istore 4, 2)) ∧ (decode cX1_run 3 = .ok (.iload 4, 2)) ∧ (decode cX1_run 5 = .ok (.bipush 6, 2)) ∧ (decode cX1_run 7 = .ok (.if_icmp .ge 31, 3)) ∧ (decode cX1_run 10 = .ok (.aload_n 0, 1)) ∧ (decode cX1_run 11 = .ok (.getfield 9, 3)) ∧ (decode cX1_run 14 = .ok (.iload 4, 2)) ∧ (decode cX1_run 16 = .ok (.aload_n 0, 1)) ∧ (decode cX1_run 17 = .ok (.aload_n 1, 1)) ∧ (decode cX1_run 18 = .ok (.iload 4, 2)) ∧ (decode cX1_run 20 = .ok (.invokevirtual 27, 3)) ∧ (decode cX1_run 23 = .ok (.aload_n 2, 1)) ∧ (decode cX1_run 24 = .ok (.aload_n 3, 1)) ∧ (decode cX1_run 25 = .ok (.invokevirtual 33, 3)) ∧ (decode cX1_run 28 = .ok (.ineg, 1)) := by decide +kernel
def dX1_run_0 := edX1_run_0.1
def dX1_run_1 := edX1_run_0.2.1
def dX1_run_3 := edX1_run_0.2.2.1
def dX1_run_5 := edX1_run_0.2.2.2.1
def dX1_run_7 := edX1_run_0.2.2.2.2.1
def dX1_run_10 := edX1_run_0.2.2.2.2.2.1
def dX1_run_11 := edX1_run_0.2.2.2.2.2.2.1
def dX1_run_14 := edX1_run_0.2.2.2.2.2.2.2.1
def dX1_run_16 := edX1_run_0.2.2.2.2.2.2.2.2.1
def dX1_run_17 := edX1_run_0.2.2.2.2.2.2.2.2.2.1
def dX1_run_18 := edX1_run_0.2.2.2.2.2.2.2.2.2.2.1
def dX1_run_20 := edX1_run_0.2.2.2.2.2.2.2.2.2.2.2.1
def dX1_run_23 := edX1_run_0.2.2.2.2.2.2.2.2.2.2.2.2.1
def dX1_run_24 := edX1_run_0.2.2.2.2.2.2.2.2.2.2.2.2.2.1
def dX1_run_25 := edX1_run_0.2.2.2.2.2.2.2.2.2.2.2.2.2.2.1
def dX1_run_28 := edX1_run_0.2.2.2.2.2.2.2.2.2.2.2.2.2.2.2
theorem edX1_run_29 : (decode cX1_run 29 = .ok (.invokestatic 37, 3)) ∧ (decode cX1_run 32 = .ok (.iinc 4 1, 3)) ∧ (decode cX1_run 35 = .ok (.goto (-32), 3)) ∧ (decode cX1_run 38 = .ok (.aload_n 0, 1)) ∧ (decode cX1_run 39 = .ok (.aload_n 1, 1)) ∧ (decode cX1_run 40 = .ok (.aload_n 2, 1)) ∧ (decode cX1_run 41 = .ok (.invokevirtual 41, 3)) ∧ (decode cX1_run 44 = .ok (.aload_n 0, 1)) ∧ (decode cX1_run 45 = .ok (.aload_n 1, 1)) ∧ (decode cX1_run 46 = .ok (.getfield 45, 3)) ∧ (decode cX1_run 49 = .ok (.aload_n 2, 1)) ∧ (decode cX1_run 50 = .ok (.invokevirtual 49, 3)) ∧ (decode cX1_run 53 = .ok (.istore 4, 2)) ∧ (decode cX1_run 55 = .ok (.aload_n 2, 1)) ∧ (decode cX1_run 56 = .ok (.getfield 53, 3)) ∧ (decode cX1_run 59 = .ok (.invokevirtual 59, 3)) := by decide +kernel
def dX1_run_29 := edX1_run_29.1
def dX1_run_32 := edX1_run_29.2.1
def dX1_run_35 := edX1_run_29.2.2.1
def dX1_run_38 := edX1_run_29.2.2.2.1
def dX1_run_39 := edX1_run_29.2.2.2.2.1
def dX1_run_40 := edX1_run_29.2.2.2.2.2.1
def dX1_run_41 := edX1_run_29.2.2.2.2.2.2.1
def dX1_run_44 := edX1_run_29.2.2.2.2.2.2.2.1
def dX1_run_45 := edX1_run_29.2.2.2.2.2.2.2.2.1
def dX1_run_46 := edX1_run_29.2.2.2.2.2.2.2.2.2.1
def dX1_run_49 := edX1_run_29.2.2.2.2.2.2.2.2.2.2.1
def dX1_run_50 := edX1_run_29.2.2.2.2.2.2.2.2.2.2.2.1
def dX1_run_53 := edX1_run_29.2.2.2.2.2.2.2.2.2.2.2.2.1
def dX1_run_55 := edX1_run_29.2.2.2.2.2.2.2.2.2.2.2.2.2.1
def dX1_run_56 := edX1_run_29.2.2.2.2.2.2.2.2.2.2.2.2.2.2.1
def dX1_run_59 := edX1_run_29.2.2.2.2.2.2.2.2.2.2.2.2.2.2.2
theorem edX1_run_62 : (decode cX1_run 62 = .ok (.istore 5, 2)) ∧ (decode cX1_run 64 = .ok (.aload_n 0, 1)) ∧ (decode cX1_run 65 = .ok (.iload 5, 2)) ∧ (decode cX1_run 67 = .ok (.aload_n 1, 1)) ∧ (decode cX1_run 68 = .ok (.getfield 65, 3)) ∧ (decode cX1_run 71 = .ok (.if_icmp .gt 26, 3)) ∧ (decode cX1_run 74 = .ok (.iload 4, 2)) ∧ (decode cX1_run 76 = .ok (.aload_n 2, 1)) ∧ (decode cX1_run 77 = .ok (.getfield 53, 3)) ∧ (decode cX1_run 80 = .ok (.getfield 68, 3)) ∧ (decode cX1_run 83 = .ok (.aload_n 2, 1)) ∧ (decode cX1_run 84 = .ok (.getfield 53, 3)) ∧ (decode cX1_run 87 = .ok (.getfield 71, 3)) ∧ (decode cX1_run 90 = .ok (.isub, 1)) ∧ (decode cX1_run 91 = .ok (.invokestatic 74, 3)) ∧ (decode cX1_run 94 = .ok (.goto 4, 3)) := by decide +kernel
def dX1_run_62 := edX1_run_62.1
def dX1_run_64 := edX1_run_62.2.1
def dX1_run_65 := edX1_run_62.2.2.1
def dX1_run_67 := edX1_run_62.2.2.2.1
def dX1_run_68 := edX1_run_62.2.2.2.2.1
def dX1_run_71 := edX1_run_62.2.2.2.2.2.1
def dX1_run_74 := edX1_run_62.2.2.2.2.2.2.1
def dX1_run_76 := edX1_run_62.2.2.2.2.2.2.2.1
def dX1_run_77 := edX1_run_62.2.2.2.2.2.2.2.2.1
def dX1_run_80 := edX1_run_62.2.2.2.2.2.2.2.2.2.1
def dX1_run_83 := edX1_run_62.2.2.2.2.2.2.2.2.2.2.1
def dX1_run_84 := edX1_run_62.2.2.2.2.2.2.2.2.2.2.2.1
def dX1_run_87 := edX1_run_62.2.2.2.2.2.2.2.2.2.2.2.2.1
def dX1_run_90 := edX1_run_62.2.2.2.2.2.2.2.2.2.2.2.2.2.1
def dX1_run_91 := edX1_run_62.2.2.2.2.2.2.2.2.2.2.2.2.2.2.1
def dX1_run_94 := edX1_run_62.2.2.2.2.2.2.2.2.2.2.2.2.2.2.2
theorem edX1_run_97 : (decode cX1_run 97 = .ok (.iconst 0, 1)) ∧ (decode cX1_run 98 = .ok (.putfield 80, 3)) ∧ (decode cX1_run 101 = .ok (.aload_n 2, 1)) ∧ (decode cX1_run 102 = .ok (.getfield 53, 3)) ∧ (decode cX1_run 105 = .ok (.dup, 1)) ∧ (decode cX1_run 106 = .ok (.getfield 71, 3)) ∧ (decode cX1_run 109 = .ok (.aload_n 0, 1)) ∧ (decode cX1_run 110 = .ok (.getfield 80, 3)) ∧ (decode cX1_run 113 = .ok (.iadd, 1)) ∧ (decode cX1_run 114 = .ok (.putfield 71, 3)) ∧ (decode cX1_run 117 = .ok (.aload_n 0, 1)) ∧ (decode cX1_run 118 = .ok (.iload 4, 2)) ∧ (decode cX1_run 120 = .ok (.aload_n 0, 1)) ∧ (decode cX1_run 121 = .ok (.getfield 80, 3)) ∧ (decode cX1_run 124 = .ok (.isub, 1)) ∧ (decode cX1_run 125 = .ok (.putfield 83, 3)) := by decide +kernel
def dX1_run_97 := edX1_run_97.1
def dX1_run_98 := edX1_run_97.2.1
def dX1_run_101 := edX1_run_97.2.2.1
def dX1_run_102 := edX1_run_97.2.2.2.1
def dX1_run_105 := edX1_run_97.2.2.2.2.1
def dX1_run_106 := edX1_run_97.2.2.2.2.2.1
def dX1_run_109 := edX1_run_97.2.2.2.2.2.2.1
def dX1_run_110 := edX1_run_97.2.2.2.2.2.2.2.1
def dX1_run_113 := edX1_run_97.2.2.2.2.2.2.2.2.1
def dX1_run_114 := edX1_run_97.2.2.2.2.2.2.2.2.2.1
def dX1_run_117 := edX1_run_97.2.2.2.2.2.2.2.2.2.2.1
def dX1_run_118 := edX1_run_97.2.2.2.2.2.2.2.2.2.2.2.1
def dX1_run_120 := edX1_run_97.2.2.2.2.2.2.2.2.2.2.2.2.1
def dX1_run_121 := edX1_run_97.2.2.2.2.2.2.2.2.2.2.2.2.2.1
def dX1_run_124 := edX1_run_97.2.2.2.2.2.2.2.2.2.2.2.2.2.2.1
def dX1_run_125 := edX1_run_97.2.2.2.2.2.2.2.2.2.2.2.2.2.2.2
theorem edX1_run_128 : (decode cX1_run 128 = .ok (.aload_n 0, 1)) ∧ (decode cX1_run 129 = .ok (.getfield 80, 3)) ∧ (decode cX1_run 132 = .ok (.ifCond .le 16, 3)) ∧ (decode cX1_run 135 = .ok (.aload_n 0, 1)) ∧ (decode cX1_run 136 = .ok (.aload_n 0, 1)) ∧ (decode cX1_run 137 = .ok (.getfield 86, 3)) ∧ (decode cX1_run 140 = .ok (.iload 5, 2)) ∧ (decode cX1_run 142 = .ok (.invokestatic 88, 3)) ∧ (decode cX1_run 145 = .ok (.putfield 86, 3)) ∧ (decode cX1_run 148 = .ok (.aload_n 0, 1)) ∧ (decode cX1_run 149 = .ok (.getfield 83, 3)) ∧ (decode cX1_run 152 = .ok (.ifCond .le 11, 3)) ∧ (decode cX1_run 155 = .ok (.aload_n 0, 1)) ∧ (decode cX1_run 156 = .ok (.aload_n 1, 1)) ∧ (decode cX1_run 157 = .ok (.getfield 65, 3)) ∧ (decode cX1_run 160 = .ok (.putfield 86, 3)) := by decide +kernel
def dX1_run_128 := edX1_run_128.1
def dX1_run_129 := edX1_run_128.2.1
def dX1_run_132 := edX1_run_128.2.2.1
def dX1_run_135 := edX1_run_128.2.2.2.1
def dX1_run_136 := edX1_run_128.2.2.2.2.1
def dX1_run_137 := edX1_run_128.2.2.2.2.2.1
def dX1_run_140 := edX1_run_128.2.2.2.2.2.2.1
def dX1_run_142 := edX1_run_128.2.2.2.2.2.2.2.1
def dX1_run_145 := edX1_run_128.2.2.2.2.2.2.2.2.1
def dX1_run_148 := edX1_run_128.2.2.2.2.2.2.2.2.2.1
def dX1_run_149 := edX1_run_128.2.2.2.2.2.2.2.2.2.2.1
def dX1_run_152 := edX1_run_128.2.2.2.2.2.2.2.2.2.2.2.1
def dX1_run_155 := edX1_run_128.2.2.2.2.2.2.2.2.2.2.2.2.1
def dX1_run_156 := edX1_run_128.2.2.2.2.2.2.2.2.2.2.2.2.2.1
def dX1_run_157 := edX1_run_128.2.2.2.2.2.2.2.2.2.2.2.2.2.2.1
def dX1_run_160 := edX1_run_128.2.2.2.2.2.2.2.2.2.2.2.2.2.2.2
theorem edX1_run_163 : (decode cX1_run 163 = .ok (.aload_n 0, 1)) ∧ (decode cX1_run 164 = .ok (.aload_n 1, 1)) ∧ (decode cX1_run 165 = .ok (.iload 5, 2)) ∧ (decode cX1_run 167 = .ok (.invokevirtual 91, 3)) ∧ (decode cX1_run 170 = .ok (.iload 4, 2)) ∧ (decode cX1_run 172 = .ok (.ifCond .ne 8, 3)) ∧ (decode cX1_run 175 = .ok (.aload_n 0, 1)) ∧ (decode cX1_run 176 = .ok (.aload_n 2, 1)) ∧ (decode cX1_run 177 = .ok (.invokevirtual 95, 3)) ∧ (decode cX1_run 180 = .ok (.return_, 1)) := by decide +kernel
def dX1_run_163 := edX1_run_163.1
def dX1_run_164 := edX1_run_163.2.1
def dX1_run_165 := edX1_run_163.2.2.1
def dX1_run_167 := edX1_run_163.2.2.2.1
def dX1_run_170 := edX1_run_163.2.2.2.2.1
def dX1_run_172 := edX1_run_163.2.2.2.2.2.1
def dX1_run_175 := edX1_run_163.2.2.2.2.2.2.1
def dX1_run_176 := edX1_run_163.2.2.2.2.2.2.2.1
def dX1_run_177 := edX1_run_163.2.2.2.2.2.2.2.2.1
def dX1_run_180 := edX1_run_163.2.2.2.2.2.2.2.2.2
set_option maxRecDepth 100000 in
theorem ggX1_drain_X11_get : GoodIn wsX1_drain wsX11_get := goodIn_s _ [] [9] (by decide +kernel) rfl (by decide +kernel)
set_option maxRecDepth 20000 in
theorem gX1_drain_X11_get_n106 : GoodIn wsX1_drain (wsX11_get) := ggX1_drain_X11_get
set_option maxRecDepth 100000 in
theorem ggX1_drain_X1_mostLost : GoodIn wsX1_drain wsX1_mostLost := goodIn_ca (b := wsX100) (goodIn_ca (b := wsX20) (goodIn_ca (b := wsX00) (goodIn_ca (b := wsX70) (goodIn_s _ [15, 16, 2, 17, 18, 1, 7, 8, 19, 20, 21, 22, 24, 25, 26, 4, 5, 27, 28, 29, 31, 32, 33, 34, 35, 36, 37, 38, 39, 40] [14, 9, 23, 6, 30] (by decide +kernel) rfl (by decide +kernel)) (goodIn_sub (fun w h => List.mem_cons_of_mem _ (List.mem_append_left _ (List.mem_append_left _ (List.mem_append_left _ (List.mem_append_right _ h))))) gs_wsX70)) (goodIn_sub (fun w h => List.mem_cons_of_mem _ (List.mem_append_left _ (List.mem_append_left _ (List.mem_append_right _ h)))) gs_wsX00)) (goodIn_sub (fun w h => List.mem_cons_of_mem _ (List.mem_append_left _ (List.mem_append_right _ h))) gs_wsX20)) (goodIn_sub (fun w h => List.mem_cons_of_mem _ (List.mem_append_right _ h)) gs_wsX100)
set_option maxRecDepth 20000 in
theorem gX1_drain_X1_mostLost : GoodIn wsX1_drain (wsV RX1 110 RX1 yX1_mostLost wsX1_mostLost) := goodIn_app (goodIn_of _ (by decide +kernel)) ggX1_drain_X1_mostLost
set_option maxRecDepth 100000 in
theorem ggX1_drain_X11_set : GoodIn wsX1_drain wsX11_set := goodIn_s _ [] [42] (by decide +kernel) rfl (by decide +kernel)
set_option maxRecDepth 20000 in
theorem gX1_drain_X11_set_n37 : GoodIn wsX1_drain (wsX11_set) := ggX1_drain_X11_set
theorem edX1_drain_0 : (decode cX1_drain 0 = .ok (.aload_n 1, 1)) ∧ (decode cX1_drain 1 = .ok (.ifnonnull 5, 3)) ∧ (decode cX1_drain 4 = .ok (.iconst 0, 1)) ∧ (decode cX1_drain 5 = .ok (.ireturn, 1)) ∧ (decode cX1_drain 6 = .ok (.aload_n 2, 1)) ∧ (decode cX1_drain 7 = .ok (.getfield 99, 3)) ∧ (decode cX1_drain 10 = .ok (.aload_n 1, 1)) ∧ (decode cX1_drain 11 = .ok (.getfield 101, 3)) ∧ (decode cX1_drain 14 = .ok (.invokestatic 106, 3)) ∧ (decode cX1_drain 17 = .ok (.istore 4, 2)) ∧ (decode cX1_drain 19 = .ok (.iload 4, 2)) ∧ (decode cX1_drain 21 = .ok (.aload_n 0, 1)) ∧ (decode cX1_drain 22 = .ok (.aload_n 1, 1)) ∧ (decode cX1_drain 23 = .ok (.aload_n 2, 1)) ∧ (decode cX1_drain 24 = .ok (.aload_n 3, 1)) ∧ (decode cX1_drain 25 = .ok (.aload_n 1, 1)) := by decide +kernel
def dX1_drain_0 := edX1_drain_0.1
def dX1_drain_1 := edX1_drain_0.2.1
def dX1_drain_4 := edX1_drain_0.2.2.1
def dX1_drain_5 := edX1_drain_0.2.2.2.1
def dX1_drain_6 := edX1_drain_0.2.2.2.2.1
def dX1_drain_7 := edX1_drain_0.2.2.2.2.2.1
def dX1_drain_10 := edX1_drain_0.2.2.2.2.2.2.1
def dX1_drain_11 := edX1_drain_0.2.2.2.2.2.2.2.1
def dX1_drain_14 := edX1_drain_0.2.2.2.2.2.2.2.2.1
def dX1_drain_17 := edX1_drain_0.2.2.2.2.2.2.2.2.2.1
def dX1_drain_19 := edX1_drain_0.2.2.2.2.2.2.2.2.2.2.1
def dX1_drain_21 := edX1_drain_0.2.2.2.2.2.2.2.2.2.2.2.1
def dX1_drain_22 := edX1_drain_0.2.2.2.2.2.2.2.2.2.2.2.2.1
def dX1_drain_23 := edX1_drain_0.2.2.2.2.2.2.2.2.2.2.2.2.2.1
def dX1_drain_24 := edX1_drain_0.2.2.2.2.2.2.2.2.2.2.2.2.2.2.1
def dX1_drain_25 := edX1_drain_0.2.2.2.2.2.2.2.2.2.2.2.2.2.2.2
theorem edX1_drain_26 : (decode cX1_drain 26 = .ok (.getfield 101, 3)) ∧ (decode cX1_drain 29 = .ok (.invokestatic 106, 3)) ∧ (decode cX1_drain 32 = .ok (.invokevirtual 110, 3)) ∧ (decode cX1_drain 35 = .ok (.invokestatic 74, 3)) ∧ (decode cX1_drain 38 = .ok (.istore 5, 2)) ∧ (decode cX1_drain 40 = .ok (.aload_n 2, 1)) ∧ (decode cX1_drain 41 = .ok (.getfield 99, 3)) ∧ (decode cX1_drain 44 = .ok (.aload_n 1, 1)) ∧ (decode cX1_drain 45 = .ok (.getfield 101, 3)) ∧ (decode cX1_drain 48 = .ok (.iload 4, 2)) ∧ (decode cX1_drain 50 = .ok (.iload 5, 2)) ∧ (decode cX1_drain 52 = .ok (.isub, 1)) ∧ (decode cX1_drain 53 = .ok (.invokestatic 37, 3)) ∧ (decode cX1_drain 56 = .ok (.iload 5, 2)) ∧ (decode cX1_drain 58 = .ok (.ireturn, 1)) := by decide +kernel
def dX1_drain_26 := edX1_drain_26.1
def dX1_drain_29 := edX1_drain_26.2.1
def dX1_drain_32 := edX1_drain_26.2.2.1
def dX1_drain_35 := edX1_drain_26.2.2.2.1
def dX1_drain_38 := edX1_drain_26.2.2.2.2.1
def dX1_drain_40 := edX1_drain_26.2.2.2.2.2.1
def dX1_drain_41 := edX1_drain_26.2.2.2.2.2.2.1
def dX1_drain_44 := edX1_drain_26.2.2.2.2.2.2.2.1
def dX1_drain_45 := edX1_drain_26.2.2.2.2.2.2.2.2.1
def dX1_drain_48 := edX1_drain_26.2.2.2.2.2.2.2.2.2.1
def dX1_drain_50 := edX1_drain_26.2.2.2.2.2.2.2.2.2.2.1
def dX1_drain_52 := edX1_drain_26.2.2.2.2.2.2.2.2.2.2.2.1
def dX1_drain_53 := edX1_drain_26.2.2.2.2.2.2.2.2.2.2.2.2.1
def dX1_drain_56 := edX1_drain_26.2.2.2.2.2.2.2.2.2.2.2.2.2.1
def dX1_drain_58 := edX1_drain_26.2.2.2.2.2.2.2.2.2.2.2.2.2.2
set_option maxRecDepth 100000 in
theorem ggX1_mostLost_X11_get : GoodIn wsX1_mostLost wsX11_get := goodIn_s _ [] [9] (by decide +kernel) rfl (by decide +kernel)
set_option maxRecDepth 20000 in
theorem gX1_mostLost_X11_get_n106 : GoodIn wsX1_mostLost (wsX11_get) := ggX1_mostLost_X11_get
set_option maxRecDepth 100000 in
theorem ggX1_mostLost_X0_loadAt : GoodIn wsX1_mostLost wsX0_loadAt := goodIn_ca (b := wsX100) (goodIn_ca (b := wsX20) (goodIn_ca (b := wsX00) (goodIn_s _ [15, 16, 17, 18, 19, 21, 22, 23, 13, 25, 26, 27, 28, 29, 30, 7, 8] [14, 20, 24, 9] (by decide +kernel) rfl (by decide +kernel)) (goodIn_sub (fun w h => List.mem_cons_of_mem _ (List.mem_append_left _ (List.mem_append_left _ (List.mem_append_right _ h)))) gs_wsX00)) (goodIn_sub (fun w h => List.mem_cons_of_mem _ (List.mem_append_left _ (List.mem_append_right _ h))) gs_wsX20)) (goodIn_sub (fun w h => List.mem_cons_of_mem _ (List.mem_append_right _ h)) gs_wsX100)
set_option maxRecDepth 20000 in
theorem gX1_mostLost_X0_loadAt : GoodIn wsX1_mostLost (wsV RX1 125 RX0 yX0_loadAt wsX0_loadAt) := goodIn_app (goodIn_of _ (by decide +kernel)) ggX1_mostLost_X0_loadAt
set_option maxRecDepth 20000 in
theorem gX1_mostLost_X0_loadAt_u125X2 : GoodIn wsX1_mostLost (va_wsU RX1 125 RX2 "OilPush$Cylinder" ⟨"OilPush$Cylinder", "loadAt", "(I)I"⟩ yX0_loadAt wsX0_loadAt) := goodIn_app (goodIn_of _ (by decide +kernel)) ggX1_mostLost_X0_loadAt
set_option maxRecDepth 20000 in
theorem gX1_mostLost_X0_loadAt_u125X10 : GoodIn wsX1_mostLost (va_wsU RX1 125 RX10 "OilPush$Cylinder" ⟨"OilPush$Cylinder", "loadAt", "(I)I"⟩ yX0_loadAt wsX0_loadAt) := goodIn_app (goodIn_of _ (by decide +kernel)) ggX1_mostLost_X0_loadAt
theorem edX1_mostLost_0 : (decode cX1_mostLost 0 = .ok (.aload_n 1, 1)) ∧ (decode cX1_mostLost 1 = .ok (.instanceof 114, 3)) ∧ (decode cX1_mostLost 4 = .ok (.istore 4, 2)) ∧ (decode cX1_mostLost 6 = .ok (.aload_n 2, 1)) ∧ (decode cX1_mostLost 7 = .ok (.getfield 116, 3)) ∧ (decode cX1_mostLost 10 = .ok (.aload_n 1, 1)) ∧ (decode cX1_mostLost 11 = .ok (.getfield 101, 3)) ∧ (decode cX1_mostLost 14 = .ok (.invokestatic 106, 3)) ∧ (decode cX1_mostLost 17 = .ok (.istore 5, 2)) ∧ (decode cX1_mostLost 19 = .ok (.aload_n 2, 1)) ∧ (decode cX1_mostLost 20 = .ok (.getfield 119, 3)) ∧ (decode cX1_mostLost 23 = .ok (.aload_n 1, 1)) ∧ (decode cX1_mostLost 24 = .ok (.getfield 101, 3)) ∧ (decode cX1_mostLost 27 = .ok (.invokestatic 106, 3)) ∧ (decode cX1_mostLost 30 = .ok (.iconst 1, 1)) ∧ (decode cX1_mostLost 31 = .ok (.if_icmp .ne 17, 3)) := by decide +kernel
def dX1_mostLost_0 := edX1_mostLost_0.1
def dX1_mostLost_1 := edX1_mostLost_0.2.1
def dX1_mostLost_4 := edX1_mostLost_0.2.2.1
def dX1_mostLost_6 := edX1_mostLost_0.2.2.2.1
def dX1_mostLost_7 := edX1_mostLost_0.2.2.2.2.1
def dX1_mostLost_10 := edX1_mostLost_0.2.2.2.2.2.1
def dX1_mostLost_11 := edX1_mostLost_0.2.2.2.2.2.2.1
def dX1_mostLost_14 := edX1_mostLost_0.2.2.2.2.2.2.2.1
def dX1_mostLost_17 := edX1_mostLost_0.2.2.2.2.2.2.2.2.1
def dX1_mostLost_19 := edX1_mostLost_0.2.2.2.2.2.2.2.2.2.1
def dX1_mostLost_20 := edX1_mostLost_0.2.2.2.2.2.2.2.2.2.2.1
def dX1_mostLost_23 := edX1_mostLost_0.2.2.2.2.2.2.2.2.2.2.2.1
def dX1_mostLost_24 := edX1_mostLost_0.2.2.2.2.2.2.2.2.2.2.2.2.1
def dX1_mostLost_27 := edX1_mostLost_0.2.2.2.2.2.2.2.2.2.2.2.2.2.1
def dX1_mostLost_30 := edX1_mostLost_0.2.2.2.2.2.2.2.2.2.2.2.2.2.2.1
def dX1_mostLost_31 := edX1_mostLost_0.2.2.2.2.2.2.2.2.2.2.2.2.2.2.2
theorem edX1_mostLost_34 : (decode cX1_mostLost 34 = .ok (.iload 4, 2)) ∧ (decode cX1_mostLost 36 = .ok (.ifCond .eq 7, 3)) ∧ (decode cX1_mostLost 39 = .ok (.iconst 0, 1)) ∧ (decode cX1_mostLost 40 = .ok (.goto 7, 3)) ∧ (decode cX1_mostLost 43 = .ok (.aload_n 1, 1)) ∧ (decode cX1_mostLost 44 = .ok (.getfield 122, 3)) ∧ (decode cX1_mostLost 47 = .ok (.ireturn, 1)) ∧ (decode cX1_mostLost 48 = .ok (.iload 5, 2)) ∧ (decode cX1_mostLost 50 = .ok (.iconst 2, 1)) ∧ (decode cX1_mostLost 51 = .ok (.if_icmp .ne 8, 3)) ∧ (decode cX1_mostLost 54 = .ok (.aload_n 1, 1)) ∧ (decode cX1_mostLost 55 = .ok (.getfield 122, 3)) ∧ (decode cX1_mostLost 58 = .ok (.ireturn, 1)) ∧ (decode cX1_mostLost 59 = .ok (.iload 5, 2)) ∧ (decode cX1_mostLost 61 = .ok (.ifCond .ne 30, 3)) ∧ (decode cX1_mostLost 64 = .ok (.iload 4, 2)) := by decide +kernel
def dX1_mostLost_34 := edX1_mostLost_34.1
def dX1_mostLost_36 := edX1_mostLost_34.2.1
def dX1_mostLost_39 := edX1_mostLost_34.2.2.1
def dX1_mostLost_40 := edX1_mostLost_34.2.2.2.1
def dX1_mostLost_43 := edX1_mostLost_34.2.2.2.2.1
def dX1_mostLost_44 := edX1_mostLost_34.2.2.2.2.2.1
def dX1_mostLost_47 := edX1_mostLost_34.2.2.2.2.2.2.1
def dX1_mostLost_48 := edX1_mostLost_34.2.2.2.2.2.2.2.1
def dX1_mostLost_50 := edX1_mostLost_34.2.2.2.2.2.2.2.2.1
def dX1_mostLost_51 := edX1_mostLost_34.2.2.2.2.2.2.2.2.2.1
def dX1_mostLost_54 := edX1_mostLost_34.2.2.2.2.2.2.2.2.2.2.1
def dX1_mostLost_55 := edX1_mostLost_34.2.2.2.2.2.2.2.2.2.2.2.1
def dX1_mostLost_58 := edX1_mostLost_34.2.2.2.2.2.2.2.2.2.2.2.2.1
def dX1_mostLost_59 := edX1_mostLost_34.2.2.2.2.2.2.2.2.2.2.2.2.2.1
def dX1_mostLost_61 := edX1_mostLost_34.2.2.2.2.2.2.2.2.2.2.2.2.2.2.1
def dX1_mostLost_64 := edX1_mostLost_34.2.2.2.2.2.2.2.2.2.2.2.2.2.2.2
theorem edX1_mostLost_66 : (decode cX1_mostLost 66 = .ok (.ifCond .ne 25, 3)) ∧ (decode cX1_mostLost 69 = .ok (.aload_n 1, 1)) ∧ (decode cX1_mostLost 70 = .ok (.aload_n 2, 1)) ∧ (decode cX1_mostLost 71 = .ok (.getfield 99, 3)) ∧ (decode cX1_mostLost 74 = .ok (.aload_n 1, 1)) ∧ (decode cX1_mostLost 75 = .ok (.getfield 101, 3)) ∧ (decode cX1_mostLost 78 = .ok (.invokestatic 106, 3)) ∧ (decode cX1_mostLost 81 = .ok (.invokevirtual 125, 3)) ∧ (decode cX1_mostLost 84 = .ok (.ifCond .le 7, 3)) ∧ (decode cX1_mostLost 87 = .ok (.iconst 1, 1)) ∧ (decode cX1_mostLost 88 = .ok (.goto 4, 3)) ∧ (decode cX1_mostLost 91 = .ok (.iconst 0, 1)) ∧ (decode cX1_mostLost 92 = .ok (.istore 6, 2)) ∧ (decode cX1_mostLost 94 = .ok (.iload 6, 2)) ∧ (decode cX1_mostLost 96 = .ok (.ifCond .eq 7, 3)) ∧ (decode cX1_mostLost 99 = .ok (.iload_n 3, 1)) := by decide +kernel
def dX1_mostLost_66 := edX1_mostLost_66.1
def dX1_mostLost_69 := edX1_mostLost_66.2.1
def dX1_mostLost_70 := edX1_mostLost_66.2.2.1
def dX1_mostLost_71 := edX1_mostLost_66.2.2.2.1
def dX1_mostLost_74 := edX1_mostLost_66.2.2.2.2.1
def dX1_mostLost_75 := edX1_mostLost_66.2.2.2.2.2.1
def dX1_mostLost_78 := edX1_mostLost_66.2.2.2.2.2.2.1
def dX1_mostLost_81 := edX1_mostLost_66.2.2.2.2.2.2.2.1
def dX1_mostLost_84 := edX1_mostLost_66.2.2.2.2.2.2.2.2.1
def dX1_mostLost_87 := edX1_mostLost_66.2.2.2.2.2.2.2.2.2.1
def dX1_mostLost_88 := edX1_mostLost_66.2.2.2.2.2.2.2.2.2.2.1
def dX1_mostLost_91 := edX1_mostLost_66.2.2.2.2.2.2.2.2.2.2.2.1
def dX1_mostLost_92 := edX1_mostLost_66.2.2.2.2.2.2.2.2.2.2.2.2.1
def dX1_mostLost_94 := edX1_mostLost_66.2.2.2.2.2.2.2.2.2.2.2.2.2.1
def dX1_mostLost_96 := edX1_mostLost_66.2.2.2.2.2.2.2.2.2.2.2.2.2.2.1
def dX1_mostLost_99 := edX1_mostLost_66.2.2.2.2.2.2.2.2.2.2.2.2.2.2.2
theorem edX1_mostLost_100 : (decode cX1_mostLost 100 = .ok (.goto 4, 3)) ∧ (decode cX1_mostLost 103 = .ok (.iconst 0, 1)) ∧ (decode cX1_mostLost 104 = .ok (.ireturn, 1)) := by decide +kernel
def dX1_mostLost_100 := edX1_mostLost_100.1
def dX1_mostLost_103 := edX1_mostLost_100.2.1
def dX1_mostLost_104 := edX1_mostLost_100.2.2
set_option maxRecDepth 100000 in
theorem ggX1_lineUp_X4_at : GoodIn wsX1_lineUp wsX4_at := goodIn_ca (b := wsX40) (goodIn_s _ [19, 20] [18] (by decide +kernel) rfl (by decide +kernel)) (goodIn_sub (fun w h => List.mem_cons_of_mem _ (List.mem_append_left _ (List.mem_append_left _ (List.mem_append_left _ (List.mem_append_left _ (List.mem_append_right _ h)))))) gs_wsX40)
set_option maxRecDepth 20000 in
theorem gX1_lineUp_X4_at : GoodIn wsX1_lineUp (wsV RX1 27 RX4 yX4_at wsX4_at) := goodIn_app (goodIn_of _ (by decide +kernel)) ggX1_lineUp_X4_at
set_option maxRecDepth 100000 in
theorem ggX1_lineUp_X11_get : GoodIn wsX1_lineUp wsX11_get := goodIn_s _ [] [23] (by decide +kernel) rfl (by decide +kernel)
set_option maxRecDepth 20000 in
theorem gX1_lineUp_X11_get_n106 : GoodIn wsX1_lineUp (wsX11_get) := ggX1_lineUp_X11_get
set_option maxRecDepth 100000 in
theorem ggX1_lineUp_X0_needAt : GoodIn wsX1_lineUp wsX0_needAt := goodIn_ca (b := wsX100) (goodIn_ca (b := wsX20) (goodIn_ca (b := wsX00) (goodIn_s _ [29, 30, 31, 32, 27, 34, 35, 36, 10, 11, 37, 38, 39, 41, 42, 43, 44, 45, 46, 21, 22, 47, 48, 49, 50, 51, 52, 53, 55, 56, 57, 58, 59, 60, 61] [28, 33, 12, 40, 23, 54, 62] (by decide +kernel) rfl (by decide +kernel)) (goodIn_sub (fun w h => List.mem_cons_of_mem _ (List.mem_append_left _ (List.mem_append_left _ (List.mem_append_right _ h)))) gs_wsX00)) (goodIn_sub (fun w h => List.mem_cons_of_mem _ (List.mem_append_left _ (List.mem_append_right _ h))) gs_wsX20)) (goodIn_sub (fun w h => List.mem_cons_of_mem _ (List.mem_append_right _ h)) gs_wsX100)
set_option maxRecDepth 20000 in
theorem gX1_lineUp_X0_needAt : GoodIn wsX1_lineUp (wsV RX1 135 RX0 yX0_needAt wsX0_needAt) := goodIn_app (goodIn_of _ (by decide +kernel)) ggX1_lineUp_X0_needAt
set_option maxRecDepth 20000 in
theorem gX1_lineUp_X0_needAt_u135X2 : GoodIn wsX1_lineUp (va_wsU RX1 135 RX2 "OilPush$Cylinder" ⟨"OilPush$Cylinder", "needAt", "(I)I"⟩ yX0_needAt wsX0_needAt) := goodIn_app (goodIn_of _ (by decide +kernel)) ggX1_lineUp_X0_needAt
set_option maxRecDepth 20000 in
theorem gX1_lineUp_X0_needAt_u135X10 : GoodIn wsX1_lineUp (va_wsU RX1 135 RX10 "OilPush$Cylinder" ⟨"OilPush$Cylinder", "needAt", "(I)I"⟩ yX0_needAt wsX0_needAt) := goodIn_app (goodIn_of _ (by decide +kernel)) ggX1_lineUp_X0_needAt
set_option maxRecDepth 100000 in
theorem ggX1_lineUp_X11_set : GoodIn wsX1_lineUp wsX11_set := goodIn_s _ [] [68] (by decide +kernel) rfl (by decide +kernel)
set_option maxRecDepth 20000 in
theorem gX1_lineUp_X11_set_n37 : GoodIn wsX1_lineUp (wsX11_set) := ggX1_lineUp_X11_set
set_option maxRecDepth 100000 in
theorem ggX1_lineUp_X0_room : GoodIn wsX1_lineUp wsX0_room := goodIn_ca (b := wsX100) (goodIn_ca (b := wsX20) (goodIn_ca (b := wsX00) (goodIn_s _ [41, 42] [40] (by decide +kernel) rfl (by decide +kernel)) (goodIn_sub (fun w h => List.mem_cons_of_mem _ (List.mem_append_left _ (List.mem_append_left _ (List.mem_append_right _ h)))) gs_wsX00)) (goodIn_sub (fun w h => List.mem_cons_of_mem _ (List.mem_append_left _ (List.mem_append_right _ h))) gs_wsX20)) (goodIn_sub (fun w h => List.mem_cons_of_mem _ (List.mem_append_right _ h)) gs_wsX100)
set_option maxRecDepth 20000 in
theorem gX1_lineUp_X0_room : GoodIn wsX1_lineUp (wsV RX1 138 RX0 yX0_room wsX0_room) := goodIn_app (goodIn_of _ (by decide +kernel)) ggX1_lineUp_X0_room
set_option maxRecDepth 20000 in
theorem gX1_lineUp_X0_room_u138X2 : GoodIn wsX1_lineUp (va_wsU RX1 138 RX2 "OilPush$Cylinder" ⟨"OilPush$Cylinder", "room", "()I"⟩ yX0_room wsX0_room) := goodIn_app (goodIn_of _ (by decide +kernel)) ggX1_lineUp_X0_room
set_option maxRecDepth 20000 in
theorem gX1_lineUp_X0_room_u138X10 : GoodIn wsX1_lineUp (va_wsU RX1 138 RX10 "OilPush$Cylinder" ⟨"OilPush$Cylinder", "room", "()I"⟩ yX0_room wsX0_room) := goodIn_app (goodIn_of _ (by decide +kernel)) ggX1_lineUp_X0_room
set_option maxRecDepth 100000 in
theorem ggX1_lineUp_X1_queue : GoodIn wsX1_lineUp wsX1_queue := goodIn_ca (b := wsX10) (goodIn_s _ [1, 6, 76, 21, 22, 67] [75, 23, 68] (by decide +kernel) rfl (by decide +kernel)) (goodIn_sub (fun w h => List.mem_cons_of_mem _ (List.mem_append_left _ (List.mem_append_left _ (List.mem_append_left _ (List.mem_append_left _ (List.mem_append_left _ (List.mem_append_right _ h))))))) gs_wsX10)
set_option maxRecDepth 20000 in
theorem gX1_lineUp_X1_queue : GoodIn wsX1_lineUp (wsV RX1 141 RX1 yX1_queue wsX1_queue) := goodIn_app (goodIn_of _ (by decide +kernel)) ggX1_lineUp_X1_queue
theorem edX1_lineUp_0 : (decode cX1_lineUp 0 = .ok (.aload_n 0, 1)) ∧ (decode cX1_lineUp 1 = .ok (.iconst 0, 1)) ∧ (decode cX1_lineUp 2 = .ok (.putfield 129, 3)) ∧ (decode cX1_lineUp 5 = .ok (.iconst 0, 1)) ∧ (decode cX1_lineUp 6 = .ok (.istore_n 3, 1)) ∧ (decode cX1_lineUp 7 = .ok (.iload_n 3, 1)) ∧ (decode cX1_lineUp 8 = .ok (.aload_n 1, 1)) ∧ (decode cX1_lineUp 9 = .ok (.getfield 132, 3)) ∧ (decode cX1_lineUp 12 = .ok (.if_icmp .ge 127, 3)) ∧ (decode cX1_lineUp 15 = .ok (.aload_n 1, 1)) ∧ (decode cX1_lineUp 16 = .ok (.iload_n 3, 1)) ∧ (decode cX1_lineUp 17 = .ok (.invokevirtual 27, 3)) ∧ (decode cX1_lineUp 20 = .ok (.astore 4, 2)) ∧ (decode cX1_lineUp 22 = .ok (.aload 4, 2)) ∧ (decode cX1_lineUp 24 = .ok (.ifnull 109, 3)) ∧ (decode cX1_lineUp 27 = .ok (.aload_n 2, 1)) := by decide +kernel
def dX1_lineUp_0 := edX1_lineUp_0.1
def dX1_lineUp_1 := edX1_lineUp_0.2.1
def dX1_lineUp_2 := edX1_lineUp_0.2.2.1
def dX1_lineUp_5 := edX1_lineUp_0.2.2.2.1
def dX1_lineUp_6 := edX1_lineUp_0.2.2.2.2.1
def dX1_lineUp_7 := edX1_lineUp_0.2.2.2.2.2.1
def dX1_lineUp_8 := edX1_lineUp_0.2.2.2.2.2.2.1
def dX1_lineUp_9 := edX1_lineUp_0.2.2.2.2.2.2.2.1
def dX1_lineUp_12 := edX1_lineUp_0.2.2.2.2.2.2.2.2.1
def dX1_lineUp_15 := edX1_lineUp_0.2.2.2.2.2.2.2.2.2.1
def dX1_lineUp_16 := edX1_lineUp_0.2.2.2.2.2.2.2.2.2.2.1
def dX1_lineUp_17 := edX1_lineUp_0.2.2.2.2.2.2.2.2.2.2.2.1
def dX1_lineUp_20 := edX1_lineUp_0.2.2.2.2.2.2.2.2.2.2.2.2.1
def dX1_lineUp_22 := edX1_lineUp_0.2.2.2.2.2.2.2.2.2.2.2.2.2.1
def dX1_lineUp_24 := edX1_lineUp_0.2.2.2.2.2.2.2.2.2.2.2.2.2.2.1
def dX1_lineUp_27 := edX1_lineUp_0.2.2.2.2.2.2.2.2.2.2.2.2.2.2.2
theorem edX1_lineUp_28 : (decode cX1_lineUp 28 = .ok (.getfield 116, 3)) ∧ (decode cX1_lineUp 31 = .ok (.iload_n 3, 1)) ∧ (decode cX1_lineUp 32 = .ok (.invokestatic 106, 3)) ∧ (decode cX1_lineUp 35 = .ok (.iconst 1, 1)) ∧ (decode cX1_lineUp 36 = .ok (.if_icmp .ne 97, 3)) ∧ (decode cX1_lineUp 39 = .ok (.aload_n 2, 1)) ∧ (decode cX1_lineUp 40 = .ok (.getfield 119, 3)) ∧ (decode cX1_lineUp 43 = .ok (.iload_n 3, 1)) ∧ (decode cX1_lineUp 44 = .ok (.invokestatic 106, 3)) ∧ (decode cX1_lineUp 47 = .ok (.iconst 1, 1)) ∧ (decode cX1_lineUp 48 = .ok (.if_icmp .ne 6, 3)) ∧ (decode cX1_lineUp 51 = .ok (.goto 82, 3)) ∧ (decode cX1_lineUp 54 = .ok (.aload_n 2, 1)) ∧ (decode cX1_lineUp 55 = .ok (.getfield 99, 3)) ∧ (decode cX1_lineUp 58 = .ok (.iload_n 3, 1)) ∧ (decode cX1_lineUp 59 = .ok (.invokestatic 106, 3)) := by decide +kernel
def dX1_lineUp_28 := edX1_lineUp_28.1
def dX1_lineUp_31 := edX1_lineUp_28.2.1
def dX1_lineUp_32 := edX1_lineUp_28.2.2.1
def dX1_lineUp_35 := edX1_lineUp_28.2.2.2.1
def dX1_lineUp_36 := edX1_lineUp_28.2.2.2.2.1
def dX1_lineUp_39 := edX1_lineUp_28.2.2.2.2.2.1
def dX1_lineUp_40 := edX1_lineUp_28.2.2.2.2.2.2.1
def dX1_lineUp_43 := edX1_lineUp_28.2.2.2.2.2.2.2.1
def dX1_lineUp_44 := edX1_lineUp_28.2.2.2.2.2.2.2.2.1
def dX1_lineUp_47 := edX1_lineUp_28.2.2.2.2.2.2.2.2.2.1
def dX1_lineUp_48 := edX1_lineUp_28.2.2.2.2.2.2.2.2.2.2.1
def dX1_lineUp_51 := edX1_lineUp_28.2.2.2.2.2.2.2.2.2.2.2.1
def dX1_lineUp_54 := edX1_lineUp_28.2.2.2.2.2.2.2.2.2.2.2.2.1
def dX1_lineUp_55 := edX1_lineUp_28.2.2.2.2.2.2.2.2.2.2.2.2.2.1
def dX1_lineUp_58 := edX1_lineUp_28.2.2.2.2.2.2.2.2.2.2.2.2.2.2.1
def dX1_lineUp_59 := edX1_lineUp_28.2.2.2.2.2.2.2.2.2.2.2.2.2.2.2
theorem edX1_lineUp_62 : (decode cX1_lineUp 62 = .ok (.istore 5, 2)) ∧ (decode cX1_lineUp 64 = .ok (.aload_n 0, 1)) ∧ (decode cX1_lineUp 65 = .ok (.getfield 18, 3)) ∧ (decode cX1_lineUp 68 = .ok (.iload_n 3, 1)) ∧ (decode cX1_lineUp 69 = .ok (.aload 4, 2)) ∧ (decode cX1_lineUp 71 = .ok (.iload 5, 2)) ∧ (decode cX1_lineUp 73 = .ok (.invokevirtual 135, 3)) ∧ (decode cX1_lineUp 76 = .ok (.invokestatic 37, 3)) ∧ (decode cX1_lineUp 79 = .ok (.aload_n 0, 1)) ∧ (decode cX1_lineUp 80 = .ok (.getfield 21, 3)) ∧ (decode cX1_lineUp 83 = .ok (.iload_n 3, 1)) ∧ (decode cX1_lineUp 84 = .ok (.aload 4, 2)) ∧ (decode cX1_lineUp 86 = .ok (.getfield 122, 3)) ∧ (decode cX1_lineUp 89 = .ok (.aload 4, 2)) ∧ (decode cX1_lineUp 91 = .ok (.invokevirtual 138, 3)) ∧ (decode cX1_lineUp 94 = .ok (.iload 5, 2)) := by decide +kernel
def dX1_lineUp_62 := edX1_lineUp_62.1
def dX1_lineUp_64 := edX1_lineUp_62.2.1
def dX1_lineUp_65 := edX1_lineUp_62.2.2.1
def dX1_lineUp_68 := edX1_lineUp_62.2.2.2.1
def dX1_lineUp_69 := edX1_lineUp_62.2.2.2.2.1
def dX1_lineUp_71 := edX1_lineUp_62.2.2.2.2.2.1
def dX1_lineUp_73 := edX1_lineUp_62.2.2.2.2.2.2.1
def dX1_lineUp_76 := edX1_lineUp_62.2.2.2.2.2.2.2.1
def dX1_lineUp_79 := edX1_lineUp_62.2.2.2.2.2.2.2.2.1
def dX1_lineUp_80 := edX1_lineUp_62.2.2.2.2.2.2.2.2.2.1
def dX1_lineUp_83 := edX1_lineUp_62.2.2.2.2.2.2.2.2.2.2.1
def dX1_lineUp_84 := edX1_lineUp_62.2.2.2.2.2.2.2.2.2.2.2.1
def dX1_lineUp_86 := edX1_lineUp_62.2.2.2.2.2.2.2.2.2.2.2.2.1
def dX1_lineUp_89 := edX1_lineUp_62.2.2.2.2.2.2.2.2.2.2.2.2.2.1
def dX1_lineUp_91 := edX1_lineUp_62.2.2.2.2.2.2.2.2.2.2.2.2.2.2.1
def dX1_lineUp_94 := edX1_lineUp_62.2.2.2.2.2.2.2.2.2.2.2.2.2.2.2
theorem edX1_lineUp_96 : (decode cX1_lineUp 96 = .ok (.isub, 1)) ∧ (decode cX1_lineUp 97 = .ok (.invokestatic 74, 3)) ∧ (decode cX1_lineUp 100 = .ok (.invokestatic 37, 3)) ∧ (decode cX1_lineUp 103 = .ok (.iload 5, 2)) ∧ (decode cX1_lineUp 105 = .ok (.aload 4, 2)) ∧ (decode cX1_lineUp 107 = .ok (.invokevirtual 138, 3)) ∧ (decode cX1_lineUp 110 = .ok (.if_icmp .ge 23, 3)) ∧ (decode cX1_lineUp 113 = .ok (.aload_n 0, 1)) ∧ (decode cX1_lineUp 114 = .ok (.getfield 18, 3)) ∧ (decode cX1_lineUp 117 = .ok (.iload_n 3, 1)) ∧ (decode cX1_lineUp 118 = .ok (.invokestatic 106, 3)) ∧ (decode cX1_lineUp 121 = .ok (.aload_n 1, 1)) ∧ (decode cX1_lineUp 122 = .ok (.getfield 65, 3)) ∧ (decode cX1_lineUp 125 = .ok (.if_icmp .gt 8, 3)) ∧ (decode cX1_lineUp 128 = .ok (.aload_n 0, 1)) ∧ (decode cX1_lineUp 129 = .ok (.iload_n 3, 1)) := by decide +kernel
def dX1_lineUp_96 := edX1_lineUp_96.1
def dX1_lineUp_97 := edX1_lineUp_96.2.1
def dX1_lineUp_100 := edX1_lineUp_96.2.2.1
def dX1_lineUp_103 := edX1_lineUp_96.2.2.2.1
def dX1_lineUp_105 := edX1_lineUp_96.2.2.2.2.1
def dX1_lineUp_107 := edX1_lineUp_96.2.2.2.2.2.1
def dX1_lineUp_110 := edX1_lineUp_96.2.2.2.2.2.2.1
def dX1_lineUp_113 := edX1_lineUp_96.2.2.2.2.2.2.2.1
def dX1_lineUp_114 := edX1_lineUp_96.2.2.2.2.2.2.2.2.1
def dX1_lineUp_117 := edX1_lineUp_96.2.2.2.2.2.2.2.2.2.1
def dX1_lineUp_118 := edX1_lineUp_96.2.2.2.2.2.2.2.2.2.2.1
def dX1_lineUp_121 := edX1_lineUp_96.2.2.2.2.2.2.2.2.2.2.2.1
def dX1_lineUp_122 := edX1_lineUp_96.2.2.2.2.2.2.2.2.2.2.2.2.1
def dX1_lineUp_125 := edX1_lineUp_96.2.2.2.2.2.2.2.2.2.2.2.2.2.1
def dX1_lineUp_128 := edX1_lineUp_96.2.2.2.2.2.2.2.2.2.2.2.2.2.2.1
def dX1_lineUp_129 := edX1_lineUp_96.2.2.2.2.2.2.2.2.2.2.2.2.2.2.2
theorem edX1_lineUp_130 : (decode cX1_lineUp 130 = .ok (.invokevirtual 141, 3)) ∧ (decode cX1_lineUp 133 = .ok (.iinc 3 1, 3)) ∧ (decode cX1_lineUp 136 = .ok (.goto (-129), 3)) ∧ (decode cX1_lineUp 139 = .ok (.return_, 1)) := by decide +kernel
def dX1_lineUp_130 := edX1_lineUp_130.1
def dX1_lineUp_133 := edX1_lineUp_130.2.1
def dX1_lineUp_136 := edX1_lineUp_130.2.2.1
def dX1_lineUp_139 := edX1_lineUp_130.2.2.2
set_option maxRecDepth 100000 in
theorem ggX1_queue_X11_get : GoodIn wsX1_queue wsX11_get := goodIn_s _ [] [6] (by decide +kernel) rfl (by decide +kernel)
set_option maxRecDepth 20000 in
theorem gX1_queue_X11_get_n106 : GoodIn wsX1_queue (wsX11_get) := ggX1_queue_X11_get
set_option maxRecDepth 100000 in
theorem ggX1_queue_X11_set : GoodIn wsX1_queue wsX11_set := goodIn_s _ [] [8] (by decide +kernel) rfl (by decide +kernel)
set_option maxRecDepth 20000 in
theorem gX1_queue_X11_set_n37 : GoodIn wsX1_queue (wsX11_set) := ggX1_queue_X11_set
theorem edX1_queue_0 : (decode cX1_queue 0 = .ok (.aload_n 0, 1)) ∧ (decode cX1_queue 1 = .ok (.getfield 129, 3)) ∧ (decode cX1_queue 4 = .ok (.istore_n 2, 1)) ∧ (decode cX1_queue 5 = .ok (.iload_n 2, 1)) ∧ (decode cX1_queue 6 = .ok (.ifCond .le 55, 3)) ∧ (decode cX1_queue 9 = .ok (.aload_n 0, 1)) ∧ (decode cX1_queue 10 = .ok (.getfield 18, 3)) ∧ (decode cX1_queue 13 = .ok (.aload_n 0, 1)) ∧ (decode cX1_queue 14 = .ok (.getfield 15, 3)) ∧ (decode cX1_queue 17 = .ok (.iload_n 2, 1)) ∧ (decode cX1_queue 18 = .ok (.iconst 1, 1)) ∧ (decode cX1_queue 19 = .ok (.isub, 1)) ∧ (decode cX1_queue 20 = .ok (.invokestatic 106, 3)) ∧ (decode cX1_queue 23 = .ok (.invokestatic 106, 3)) ∧ (decode cX1_queue 26 = .ok (.aload_n 0, 1)) ∧ (decode cX1_queue 27 = .ok (.getfield 18, 3)) := by decide +kernel
def dX1_queue_0 := edX1_queue_0.1
def dX1_queue_1 := edX1_queue_0.2.1
def dX1_queue_4 := edX1_queue_0.2.2.1
def dX1_queue_5 := edX1_queue_0.2.2.2.1
def dX1_queue_6 := edX1_queue_0.2.2.2.2.1
def dX1_queue_9 := edX1_queue_0.2.2.2.2.2.1
def dX1_queue_10 := edX1_queue_0.2.2.2.2.2.2.1
def dX1_queue_13 := edX1_queue_0.2.2.2.2.2.2.2.1
def dX1_queue_14 := edX1_queue_0.2.2.2.2.2.2.2.2.1
def dX1_queue_17 := edX1_queue_0.2.2.2.2.2.2.2.2.2.1
def dX1_queue_18 := edX1_queue_0.2.2.2.2.2.2.2.2.2.2.1
def dX1_queue_19 := edX1_queue_0.2.2.2.2.2.2.2.2.2.2.2.1
def dX1_queue_20 := edX1_queue_0.2.2.2.2.2.2.2.2.2.2.2.2.1
def dX1_queue_23 := edX1_queue_0.2.2.2.2.2.2.2.2.2.2.2.2.2.1
def dX1_queue_26 := edX1_queue_0.2.2.2.2.2.2.2.2.2.2.2.2.2.2.1
def dX1_queue_27 := edX1_queue_0.2.2.2.2.2.2.2.2.2.2.2.2.2.2.2
theorem edX1_queue_30 : (decode cX1_queue 30 = .ok (.iload_n 1, 1)) ∧ (decode cX1_queue 31 = .ok (.invokestatic 106, 3)) ∧ (decode cX1_queue 34 = .ok (.if_icmp .le 27, 3)) ∧ (decode cX1_queue 37 = .ok (.aload_n 0, 1)) ∧ (decode cX1_queue 38 = .ok (.getfield 15, 3)) ∧ (decode cX1_queue 41 = .ok (.iload_n 2, 1)) ∧ (decode cX1_queue 42 = .ok (.aload_n 0, 1)) ∧ (decode cX1_queue 43 = .ok (.getfield 15, 3)) ∧ (decode cX1_queue 46 = .ok (.iload_n 2, 1)) ∧ (decode cX1_queue 47 = .ok (.iconst 1, 1)) ∧ (decode cX1_queue 48 = .ok (.isub, 1)) ∧ (decode cX1_queue 49 = .ok (.invokestatic 106, 3)) ∧ (decode cX1_queue 52 = .ok (.invokestatic 37, 3)) ∧ (decode cX1_queue 55 = .ok (.iinc 2 (-1), 3)) ∧ (decode cX1_queue 58 = .ok (.goto (-53), 3)) ∧ (decode cX1_queue 61 = .ok (.aload_n 0, 1)) := by decide +kernel
def dX1_queue_30 := edX1_queue_30.1
def dX1_queue_31 := edX1_queue_30.2.1
def dX1_queue_34 := edX1_queue_30.2.2.1
def dX1_queue_37 := edX1_queue_30.2.2.2.1
def dX1_queue_38 := edX1_queue_30.2.2.2.2.1
def dX1_queue_41 := edX1_queue_30.2.2.2.2.2.1
def dX1_queue_42 := edX1_queue_30.2.2.2.2.2.2.1
def dX1_queue_43 := edX1_queue_30.2.2.2.2.2.2.2.1
def dX1_queue_46 := edX1_queue_30.2.2.2.2.2.2.2.2.1
def dX1_queue_47 := edX1_queue_30.2.2.2.2.2.2.2.2.2.1
def dX1_queue_48 := edX1_queue_30.2.2.2.2.2.2.2.2.2.2.1
def dX1_queue_49 := edX1_queue_30.2.2.2.2.2.2.2.2.2.2.2.1
def dX1_queue_52 := edX1_queue_30.2.2.2.2.2.2.2.2.2.2.2.2.1
def dX1_queue_55 := edX1_queue_30.2.2.2.2.2.2.2.2.2.2.2.2.2.1
def dX1_queue_58 := edX1_queue_30.2.2.2.2.2.2.2.2.2.2.2.2.2.2.1
def dX1_queue_61 := edX1_queue_30.2.2.2.2.2.2.2.2.2.2.2.2.2.2.2
theorem edX1_queue_62 : (decode cX1_queue 62 = .ok (.getfield 15, 3)) ∧ (decode cX1_queue 65 = .ok (.iload_n 2, 1)) ∧ (decode cX1_queue 66 = .ok (.iload_n 1, 1)) ∧ (decode cX1_queue 67 = .ok (.invokestatic 37, 3)) ∧ (decode cX1_queue 70 = .ok (.aload_n 0, 1)) ∧ (decode cX1_queue 71 = .ok (.dup, 1)) ∧ (decode cX1_queue 72 = .ok (.getfield 129, 3)) ∧ (decode cX1_queue 75 = .ok (.iconst 1, 1)) ∧ (decode cX1_queue 76 = .ok (.iadd, 1)) ∧ (decode cX1_queue 77 = .ok (.putfield 129, 3)) ∧ (decode cX1_queue 80 = .ok (.return_, 1)) := by decide +kernel
def dX1_queue_62 := edX1_queue_62.1
def dX1_queue_65 := edX1_queue_62.2.1
def dX1_queue_66 := edX1_queue_62.2.2.1
def dX1_queue_67 := edX1_queue_62.2.2.2.1
def dX1_queue_70 := edX1_queue_62.2.2.2.2.1
def dX1_queue_71 := edX1_queue_62.2.2.2.2.2.1
def dX1_queue_72 := edX1_queue_62.2.2.2.2.2.2.1
def dX1_queue_75 := edX1_queue_62.2.2.2.2.2.2.2.1
def dX1_queue_76 := edX1_queue_62.2.2.2.2.2.2.2.2.1
def dX1_queue_77 := edX1_queue_62.2.2.2.2.2.2.2.2.2.1
def dX1_queue_80 := edX1_queue_62.2.2.2.2.2.2.2.2.2.2
set_option maxRecDepth 100000 in
theorem ggX1_takeFromPump_X11_get : GoodIn wsX1_takeFromPump wsX11_get := goodIn_s _ [] [17] (by decide +kernel) rfl (by decide +kernel)
set_option maxRecDepth 20000 in
theorem gX1_takeFromPump_X11_get_n106 : GoodIn wsX1_takeFromPump (wsX11_get) := ggX1_takeFromPump_X11_get
set_option maxRecDepth 100000 in
theorem ggX1_takeFromPump_X1_give : GoodIn wsX1_takeFromPump wsX1_give := goodIn_ca (b := wsX70) (goodIn_ca (b := wsX10) (goodIn_s _ [23, 24, 15, 16, 25] [22, 17, 26] (by decide +kernel) rfl (by decide +kernel)) (goodIn_sub (fun w h => List.mem_cons_of_mem _ (List.mem_append_left _ (List.mem_append_right _ h))) gs_wsX10)) (goodIn_sub (fun w h => List.mem_cons_of_mem _ (List.mem_append_right _ h)) gs_wsX70)
set_option maxRecDepth 20000 in
theorem gX1_takeFromPump_X1_give : GoodIn wsX1_takeFromPump (wsV RX1 148 RX1 yX1_give wsX1_give) := goodIn_app (goodIn_of _ (by decide +kernel)) ggX1_takeFromPump_X1_give
set_option maxRecDepth 100000 in
theorem ggX1_takeFromPump_X11_set : GoodIn wsX1_takeFromPump wsX11_set := goodIn_s _ [] [26] (by decide +kernel) rfl (by decide +kernel)
set_option maxRecDepth 20000 in
theorem gX1_takeFromPump_X11_set_n37 : GoodIn wsX1_takeFromPump (wsX11_set) := ggX1_takeFromPump_X11_set
theorem edX1_takeFromPump_0 : (decode cX1_takeFromPump 0 = .ok (.iload_n 1, 1)) ∧ (decode cX1_takeFromPump 1 = .ok (.istore_n 3, 1)) ∧ (decode cX1_takeFromPump 2 = .ok (.aload_n 0, 1)) ∧ (decode cX1_takeFromPump 3 = .ok (.iconst 0, 1)) ∧ (decode cX1_takeFromPump 4 = .ok (.putfield 145, 3)) ∧ (decode cX1_takeFromPump 7 = .ok (.aload_n 0, 1)) ∧ (decode cX1_takeFromPump 8 = .ok (.iconst 0, 1)) ∧ (decode cX1_takeFromPump 9 = .ok (.putfield 86, 3)) ∧ (decode cX1_takeFromPump 12 = .ok (.iconst 0, 1)) ∧ (decode cX1_takeFromPump 13 = .ok (.istore 4, 2)) ∧ (decode cX1_takeFromPump 15 = .ok (.iload 4, 2)) ∧ (decode cX1_takeFromPump 17 = .ok (.aload_n 0, 1)) ∧ (decode cX1_takeFromPump 18 = .ok (.getfield 129, 3)) ∧ (decode cX1_takeFromPump 21 = .ok (.if_icmp .ge 97, 3)) ∧ (decode cX1_takeFromPump 24 = .ok (.aload_n 0, 1)) ∧ (decode cX1_takeFromPump 25 = .ok (.getfield 15, 3)) := by decide +kernel
def dX1_takeFromPump_0 := edX1_takeFromPump_0.1
def dX1_takeFromPump_1 := edX1_takeFromPump_0.2.1
def dX1_takeFromPump_2 := edX1_takeFromPump_0.2.2.1
def dX1_takeFromPump_3 := edX1_takeFromPump_0.2.2.2.1
def dX1_takeFromPump_4 := edX1_takeFromPump_0.2.2.2.2.1
def dX1_takeFromPump_7 := edX1_takeFromPump_0.2.2.2.2.2.1
def dX1_takeFromPump_8 := edX1_takeFromPump_0.2.2.2.2.2.2.1
def dX1_takeFromPump_9 := edX1_takeFromPump_0.2.2.2.2.2.2.2.1
def dX1_takeFromPump_12 := edX1_takeFromPump_0.2.2.2.2.2.2.2.2.1
def dX1_takeFromPump_13 := edX1_takeFromPump_0.2.2.2.2.2.2.2.2.2.1
def dX1_takeFromPump_15 := edX1_takeFromPump_0.2.2.2.2.2.2.2.2.2.2.1
def dX1_takeFromPump_17 := edX1_takeFromPump_0.2.2.2.2.2.2.2.2.2.2.2.1
def dX1_takeFromPump_18 := edX1_takeFromPump_0.2.2.2.2.2.2.2.2.2.2.2.2.1
def dX1_takeFromPump_21 := edX1_takeFromPump_0.2.2.2.2.2.2.2.2.2.2.2.2.2.1
def dX1_takeFromPump_24 := edX1_takeFromPump_0.2.2.2.2.2.2.2.2.2.2.2.2.2.2.1
def dX1_takeFromPump_25 := edX1_takeFromPump_0.2.2.2.2.2.2.2.2.2.2.2.2.2.2.2
theorem edX1_takeFromPump_28 : (decode cX1_takeFromPump 28 = .ok (.iload 4, 2)) ∧ (decode cX1_takeFromPump 30 = .ok (.invokestatic 106, 3)) ∧ (decode cX1_takeFromPump 33 = .ok (.istore 5, 2)) ∧ (decode cX1_takeFromPump 35 = .ok (.aload_n 0, 1)) ∧ (decode cX1_takeFromPump 36 = .ok (.getfield 21, 3)) ∧ (decode cX1_takeFromPump 39 = .ok (.iload 5, 2)) ∧ (decode cX1_takeFromPump 41 = .ok (.invokestatic 106, 3)) ∧ (decode cX1_takeFromPump 44 = .ok (.iload_n 3, 1)) ∧ (decode cX1_takeFromPump 45 = .ok (.invokestatic 74, 3)) ∧ (decode cX1_takeFromPump 48 = .ok (.istore 6, 2)) ∧ (decode cX1_takeFromPump 50 = .ok (.iload 6, 2)) ∧ (decode cX1_takeFromPump 52 = .ok (.ifCond .le 60, 3)) ∧ (decode cX1_takeFromPump 55 = .ok (.aload_n 0, 1)) ∧ (decode cX1_takeFromPump 56 = .ok (.iload 5, 2)) ∧ (decode cX1_takeFromPump 58 = .ok (.iload 6, 2)) ∧ (decode cX1_takeFromPump 60 = .ok (.aload_n 2, 1)) := by decide +kernel
def dX1_takeFromPump_28 := edX1_takeFromPump_28.1
def dX1_takeFromPump_30 := edX1_takeFromPump_28.2.1
def dX1_takeFromPump_33 := edX1_takeFromPump_28.2.2.1
def dX1_takeFromPump_35 := edX1_takeFromPump_28.2.2.2.1
def dX1_takeFromPump_36 := edX1_takeFromPump_28.2.2.2.2.1
def dX1_takeFromPump_39 := edX1_takeFromPump_28.2.2.2.2.2.1
def dX1_takeFromPump_41 := edX1_takeFromPump_28.2.2.2.2.2.2.1
def dX1_takeFromPump_44 := edX1_takeFromPump_28.2.2.2.2.2.2.2.1
def dX1_takeFromPump_45 := edX1_takeFromPump_28.2.2.2.2.2.2.2.2.1
def dX1_takeFromPump_48 := edX1_takeFromPump_28.2.2.2.2.2.2.2.2.2.1
def dX1_takeFromPump_50 := edX1_takeFromPump_28.2.2.2.2.2.2.2.2.2.2.1
def dX1_takeFromPump_52 := edX1_takeFromPump_28.2.2.2.2.2.2.2.2.2.2.2.1
def dX1_takeFromPump_55 := edX1_takeFromPump_28.2.2.2.2.2.2.2.2.2.2.2.2.1
def dX1_takeFromPump_56 := edX1_takeFromPump_28.2.2.2.2.2.2.2.2.2.2.2.2.2.1
def dX1_takeFromPump_58 := edX1_takeFromPump_28.2.2.2.2.2.2.2.2.2.2.2.2.2.2.1
def dX1_takeFromPump_60 := edX1_takeFromPump_28.2.2.2.2.2.2.2.2.2.2.2.2.2.2.2
theorem edX1_takeFromPump_61 : (decode cX1_takeFromPump 61 = .ok (.invokevirtual 148, 3)) ∧ (decode cX1_takeFromPump 64 = .ok (.iload_n 3, 1)) ∧ (decode cX1_takeFromPump 65 = .ok (.iload 6, 2)) ∧ (decode cX1_takeFromPump 67 = .ok (.isub, 1)) ∧ (decode cX1_takeFromPump 68 = .ok (.istore_n 3, 1)) ∧ (decode cX1_takeFromPump 69 = .ok (.aload_n 0, 1)) ∧ (decode cX1_takeFromPump 70 = .ok (.getfield 24, 3)) ∧ (decode cX1_takeFromPump 73 = .ok (.aload_n 0, 1)) ∧ (decode cX1_takeFromPump 74 = .ok (.getfield 145, 3)) ∧ (decode cX1_takeFromPump 77 = .ok (.iload 5, 2)) ∧ (decode cX1_takeFromPump 79 = .ok (.invokestatic 37, 3)) ∧ (decode cX1_takeFromPump 82 = .ok (.aload_n 0, 1)) ∧ (decode cX1_takeFromPump 83 = .ok (.dup, 1)) ∧ (decode cX1_takeFromPump 84 = .ok (.getfield 145, 3)) ∧ (decode cX1_takeFromPump 87 = .ok (.iconst 1, 1)) ∧ (decode cX1_takeFromPump 88 = .ok (.iadd, 1)) := by decide +kernel
def dX1_takeFromPump_61 := edX1_takeFromPump_61.1
def dX1_takeFromPump_64 := edX1_takeFromPump_61.2.1
def dX1_takeFromPump_65 := edX1_takeFromPump_61.2.2.1
def dX1_takeFromPump_67 := edX1_takeFromPump_61.2.2.2.1
def dX1_takeFromPump_68 := edX1_takeFromPump_61.2.2.2.2.1
def dX1_takeFromPump_69 := edX1_takeFromPump_61.2.2.2.2.2.1
def dX1_takeFromPump_70 := edX1_takeFromPump_61.2.2.2.2.2.2.1
def dX1_takeFromPump_73 := edX1_takeFromPump_61.2.2.2.2.2.2.2.1
def dX1_takeFromPump_74 := edX1_takeFromPump_61.2.2.2.2.2.2.2.2.1
def dX1_takeFromPump_77 := edX1_takeFromPump_61.2.2.2.2.2.2.2.2.2.1
def dX1_takeFromPump_79 := edX1_takeFromPump_61.2.2.2.2.2.2.2.2.2.2.1
def dX1_takeFromPump_82 := edX1_takeFromPump_61.2.2.2.2.2.2.2.2.2.2.2.1
def dX1_takeFromPump_83 := edX1_takeFromPump_61.2.2.2.2.2.2.2.2.2.2.2.2.1
def dX1_takeFromPump_84 := edX1_takeFromPump_61.2.2.2.2.2.2.2.2.2.2.2.2.2.1
def dX1_takeFromPump_87 := edX1_takeFromPump_61.2.2.2.2.2.2.2.2.2.2.2.2.2.2.1
def dX1_takeFromPump_88 := edX1_takeFromPump_61.2.2.2.2.2.2.2.2.2.2.2.2.2.2.2
theorem edX1_takeFromPump_89 : (decode cX1_takeFromPump 89 = .ok (.putfield 145, 3)) ∧ (decode cX1_takeFromPump 92 = .ok (.aload_n 0, 1)) ∧ (decode cX1_takeFromPump 93 = .ok (.aload_n 0, 1)) ∧ (decode cX1_takeFromPump 94 = .ok (.getfield 86, 3)) ∧ (decode cX1_takeFromPump 97 = .ok (.aload_n 0, 1)) ∧ (decode cX1_takeFromPump 98 = .ok (.getfield 18, 3)) ∧ (decode cX1_takeFromPump 101 = .ok (.iload 5, 2)) ∧ (decode cX1_takeFromPump 103 = .ok (.invokestatic 106, 3)) ∧ (decode cX1_takeFromPump 106 = .ok (.invokestatic 88, 3)) ∧ (decode cX1_takeFromPump 109 = .ok (.putfield 86, 3)) ∧ (decode cX1_takeFromPump 112 = .ok (.iinc 4 1, 3)) ∧ (decode cX1_takeFromPump 115 = .ok (.goto (-100), 3)) ∧ (decode cX1_takeFromPump 118 = .ok (.iload_n 3, 1)) ∧ (decode cX1_takeFromPump 119 = .ok (.ireturn, 1)) := by decide +kernel
def dX1_takeFromPump_89 := edX1_takeFromPump_89.1
def dX1_takeFromPump_92 := edX1_takeFromPump_89.2.1
def dX1_takeFromPump_93 := edX1_takeFromPump_89.2.2.1
def dX1_takeFromPump_94 := edX1_takeFromPump_89.2.2.2.1
def dX1_takeFromPump_97 := edX1_takeFromPump_89.2.2.2.2.1
def dX1_takeFromPump_98 := edX1_takeFromPump_89.2.2.2.2.2.1
def dX1_takeFromPump_101 := edX1_takeFromPump_89.2.2.2.2.2.2.1
def dX1_takeFromPump_103 := edX1_takeFromPump_89.2.2.2.2.2.2.2.1
def dX1_takeFromPump_106 := edX1_takeFromPump_89.2.2.2.2.2.2.2.2.1
def dX1_takeFromPump_109 := edX1_takeFromPump_89.2.2.2.2.2.2.2.2.2.1
def dX1_takeFromPump_112 := edX1_takeFromPump_89.2.2.2.2.2.2.2.2.2.2.1
def dX1_takeFromPump_115 := edX1_takeFromPump_89.2.2.2.2.2.2.2.2.2.2.2.1
def dX1_takeFromPump_118 := edX1_takeFromPump_89.2.2.2.2.2.2.2.2.2.2.2.2.1
def dX1_takeFromPump_119 := edX1_takeFromPump_89.2.2.2.2.2.2.2.2.2.2.2.2.2
set_option maxRecDepth 100000 in
theorem ggX1_give_X11_get : GoodIn wsX1_give wsX11_get := goodIn_s _ [] [5] (by decide +kernel) rfl (by decide +kernel)
set_option maxRecDepth 20000 in
theorem gX1_give_X11_get_n106 : GoodIn wsX1_give (wsX11_get) := ggX1_give_X11_get
set_option maxRecDepth 100000 in
theorem ggX1_give_X11_set : GoodIn wsX1_give wsX11_set := goodIn_s _ [] [7] (by decide +kernel) rfl (by decide +kernel)
set_option maxRecDepth 20000 in
theorem gX1_give_X11_set_n37 : GoodIn wsX1_give (wsX11_set) := ggX1_give_X11_set
theorem edX1_give_0 : (decode cX1_give 0 = .ok (.aload_n 0, 1)) ∧ (decode cX1_give 1 = .ok (.getfield 9, 3)) ∧ (decode cX1_give 4 = .ok (.iload_n 1, 1)) ∧ (decode cX1_give 5 = .ok (.aload_n 0, 1)) ∧ (decode cX1_give 6 = .ok (.getfield 9, 3)) ∧ (decode cX1_give 9 = .ok (.iload_n 1, 1)) ∧ (decode cX1_give 10 = .ok (.invokestatic 106, 3)) ∧ (decode cX1_give 13 = .ok (.iload_n 2, 1)) ∧ (decode cX1_give 14 = .ok (.iadd, 1)) ∧ (decode cX1_give 15 = .ok (.invokestatic 37, 3)) ∧ (decode cX1_give 18 = .ok (.aload_n 3, 1)) ∧ (decode cX1_give 19 = .ok (.getfield 99, 3)) ∧ (decode cX1_give 22 = .ok (.iload_n 1, 1)) ∧ (decode cX1_give 23 = .ok (.aload_n 3, 1)) ∧ (decode cX1_give 24 = .ok (.getfield 99, 3)) ∧ (decode cX1_give 27 = .ok (.iload_n 1, 1)) := by decide +kernel
def dX1_give_0 := edX1_give_0.1
def dX1_give_1 := edX1_give_0.2.1
def dX1_give_4 := edX1_give_0.2.2.1
def dX1_give_5 := edX1_give_0.2.2.2.1
def dX1_give_6 := edX1_give_0.2.2.2.2.1
def dX1_give_9 := edX1_give_0.2.2.2.2.2.1
def dX1_give_10 := edX1_give_0.2.2.2.2.2.2.1
def dX1_give_13 := edX1_give_0.2.2.2.2.2.2.2.1
def dX1_give_14 := edX1_give_0.2.2.2.2.2.2.2.2.1
def dX1_give_15 := edX1_give_0.2.2.2.2.2.2.2.2.2.1
def dX1_give_18 := edX1_give_0.2.2.2.2.2.2.2.2.2.2.1
def dX1_give_19 := edX1_give_0.2.2.2.2.2.2.2.2.2.2.2.1
def dX1_give_22 := edX1_give_0.2.2.2.2.2.2.2.2.2.2.2.2.1
def dX1_give_23 := edX1_give_0.2.2.2.2.2.2.2.2.2.2.2.2.2.1
def dX1_give_24 := edX1_give_0.2.2.2.2.2.2.2.2.2.2.2.2.2.2.1
def dX1_give_27 := edX1_give_0.2.2.2.2.2.2.2.2.2.2.2.2.2.2.2
theorem edX1_give_28 : (decode cX1_give 28 = .ok (.invokestatic 106, 3)) ∧ (decode cX1_give 31 = .ok (.iload_n 2, 1)) ∧ (decode cX1_give 32 = .ok (.iadd, 1)) ∧ (decode cX1_give 33 = .ok (.invokestatic 37, 3)) ∧ (decode cX1_give 36 = .ok (.return_, 1)) := by decide +kernel
def dX1_give_28 := edX1_give_28.1
def dX1_give_31 := edX1_give_28.2.1
def dX1_give_32 := edX1_give_28.2.2.1
def dX1_give_33 := edX1_give_28.2.2.2.1
def dX1_give_36 := edX1_give_28.2.2.2.2
set_option maxRecDepth 100000 in
theorem ggX1_addUp_X11_get : GoodIn wsX1_addUp wsX11_get := goodIn_s _ [] [15] (by decide +kernel) rfl (by decide +kernel)
set_option maxRecDepth 20000 in
theorem gX1_addUp_X11_get_n106 : GoodIn wsX1_addUp (wsX11_get) := ggX1_addUp_X11_get
theorem edX1_addUp_0 : (decode cX1_addUp 0 = .ok (.iconst 0, 1)) ∧ (decode cX1_addUp 1 = .ok (.istore_n 3, 1)) ∧ (decode cX1_addUp 2 = .ok (.iload_n 3, 1)) ∧ (decode cX1_addUp 3 = .ok (.aload_n 0, 1)) ∧ (decode cX1_addUp 4 = .ok (.getfield 145, 3)) ∧ (decode cX1_addUp 7 = .ok (.if_icmp .ge 80, 3)) ∧ (decode cX1_addUp 10 = .ok (.aload_n 0, 1)) ∧ (decode cX1_addUp 11 = .ok (.getfield 24, 3)) ∧ (decode cX1_addUp 14 = .ok (.iload_n 3, 1)) ∧ (decode cX1_addUp 15 = .ok (.invokestatic 106, 3)) ∧ (decode cX1_addUp 18 = .ok (.istore 4, 2)) ∧ (decode cX1_addUp 20 = .ok (.aload_n 0, 1)) ∧ (decode cX1_addUp 21 = .ok (.getfield 9, 3)) ∧ (decode cX1_addUp 24 = .ok (.iload 4, 2)) ∧ (decode cX1_addUp 26 = .ok (.invokestatic 106, 3)) ∧ (decode cX1_addUp 29 = .ok (.i2l, 1)) := by decide +kernel
def dX1_addUp_0 := edX1_addUp_0.1
def dX1_addUp_1 := edX1_addUp_0.2.1
def dX1_addUp_2 := edX1_addUp_0.2.2.1
def dX1_addUp_3 := edX1_addUp_0.2.2.2.1
def dX1_addUp_4 := edX1_addUp_0.2.2.2.2.1
def dX1_addUp_7 := edX1_addUp_0.2.2.2.2.2.1
def dX1_addUp_10 := edX1_addUp_0.2.2.2.2.2.2.1
def dX1_addUp_11 := edX1_addUp_0.2.2.2.2.2.2.2.1
def dX1_addUp_14 := edX1_addUp_0.2.2.2.2.2.2.2.2.1
def dX1_addUp_15 := edX1_addUp_0.2.2.2.2.2.2.2.2.2.1
def dX1_addUp_18 := edX1_addUp_0.2.2.2.2.2.2.2.2.2.2.1
def dX1_addUp_20 := edX1_addUp_0.2.2.2.2.2.2.2.2.2.2.2.1
def dX1_addUp_21 := edX1_addUp_0.2.2.2.2.2.2.2.2.2.2.2.2.1
def dX1_addUp_24 := edX1_addUp_0.2.2.2.2.2.2.2.2.2.2.2.2.2.1
def dX1_addUp_26 := edX1_addUp_0.2.2.2.2.2.2.2.2.2.2.2.2.2.2.1
def dX1_addUp_29 := edX1_addUp_0.2.2.2.2.2.2.2.2.2.2.2.2.2.2.2
theorem edX1_addUp_30 : (decode cX1_addUp 30 = .ok (.lstore 5, 2)) ∧ (decode cX1_addUp 32 = .ok (.aload_n 0, 1)) ∧ (decode cX1_addUp 33 = .ok (.dup, 1)) ∧ (decode cX1_addUp 34 = .ok (.getfield 152, 3)) ∧ (decode cX1_addUp 37 = .ok (.lload 5, 2)) ∧ (decode cX1_addUp 39 = .ok (.aload_n 0, 1)) ∧ (decode cX1_addUp 40 = .ok (.getfield 86, 3)) ∧ (decode cX1_addUp 43 = .ok (.aload_n 0, 1)) ∧ (decode cX1_addUp 44 = .ok (.getfield 18, 3)) ∧ (decode cX1_addUp 47 = .ok (.iload 4, 2)) ∧ (decode cX1_addUp 49 = .ok (.invokestatic 106, 3)) ∧ (decode cX1_addUp 52 = .ok (.isub, 1)) ∧ (decode cX1_addUp 53 = .ok (.i2l, 1)) ∧ (decode cX1_addUp 54 = .ok (.lmul, 1)) ∧ (decode cX1_addUp 55 = .ok (.ladd, 1)) ∧ (decode cX1_addUp 56 = .ok (.putfield 152, 3)) := by decide +kernel
def dX1_addUp_30 := edX1_addUp_30.1
def dX1_addUp_32 := edX1_addUp_30.2.1
def dX1_addUp_33 := edX1_addUp_30.2.2.1
def dX1_addUp_34 := edX1_addUp_30.2.2.2.1
def dX1_addUp_37 := edX1_addUp_30.2.2.2.2.1
def dX1_addUp_39 := edX1_addUp_30.2.2.2.2.2.1
def dX1_addUp_40 := edX1_addUp_30.2.2.2.2.2.2.1
def dX1_addUp_43 := edX1_addUp_30.2.2.2.2.2.2.2.1
def dX1_addUp_44 := edX1_addUp_30.2.2.2.2.2.2.2.2.1
def dX1_addUp_47 := edX1_addUp_30.2.2.2.2.2.2.2.2.2.1
def dX1_addUp_49 := edX1_addUp_30.2.2.2.2.2.2.2.2.2.2.1
def dX1_addUp_52 := edX1_addUp_30.2.2.2.2.2.2.2.2.2.2.2.1
def dX1_addUp_53 := edX1_addUp_30.2.2.2.2.2.2.2.2.2.2.2.2.1
def dX1_addUp_54 := edX1_addUp_30.2.2.2.2.2.2.2.2.2.2.2.2.2.1
def dX1_addUp_55 := edX1_addUp_30.2.2.2.2.2.2.2.2.2.2.2.2.2.2.1
def dX1_addUp_56 := edX1_addUp_30.2.2.2.2.2.2.2.2.2.2.2.2.2.2.2
theorem edX1_addUp_59 : (decode cX1_addUp 59 = .ok (.aload_n 0, 1)) ∧ (decode cX1_addUp 60 = .ok (.dup, 1)) ∧ (decode cX1_addUp 61 = .ok (.getfield 156, 3)) ∧ (decode cX1_addUp 64 = .ok (.lload 5, 2)) ∧ (decode cX1_addUp 66 = .ok (.aload_n 0, 1)) ∧ (decode cX1_addUp 67 = .ok (.getfield 18, 3)) ∧ (decode cX1_addUp 70 = .ok (.iload 4, 2)) ∧ (decode cX1_addUp 72 = .ok (.invokestatic 106, 3)) ∧ (decode cX1_addUp 75 = .ok (.i2l, 1)) ∧ (decode cX1_addUp 76 = .ok (.lmul, 1)) ∧ (decode cX1_addUp 77 = .ok (.ladd, 1)) ∧ (decode cX1_addUp 78 = .ok (.putfield 156, 3)) ∧ (decode cX1_addUp 81 = .ok (.iinc 3 1, 3)) ∧ (decode cX1_addUp 84 = .ok (.goto (-82), 3)) ∧ (decode cX1_addUp 87 = .ok (.aload_n 0, 1)) ∧ (decode cX1_addUp 88 = .ok (.dup, 1)) := by decide +kernel
def dX1_addUp_59 := edX1_addUp_59.1
def dX1_addUp_60 := edX1_addUp_59.2.1
def dX1_addUp_61 := edX1_addUp_59.2.2.1
def dX1_addUp_64 := edX1_addUp_59.2.2.2.1
def dX1_addUp_66 := edX1_addUp_59.2.2.2.2.1
def dX1_addUp_67 := edX1_addUp_59.2.2.2.2.2.1
def dX1_addUp_70 := edX1_addUp_59.2.2.2.2.2.2.1
def dX1_addUp_72 := edX1_addUp_59.2.2.2.2.2.2.2.1
def dX1_addUp_75 := edX1_addUp_59.2.2.2.2.2.2.2.2.1
def dX1_addUp_76 := edX1_addUp_59.2.2.2.2.2.2.2.2.2.1
def dX1_addUp_77 := edX1_addUp_59.2.2.2.2.2.2.2.2.2.2.1
def dX1_addUp_78 := edX1_addUp_59.2.2.2.2.2.2.2.2.2.2.2.1
def dX1_addUp_81 := edX1_addUp_59.2.2.2.2.2.2.2.2.2.2.2.2.1
def dX1_addUp_84 := edX1_addUp_59.2.2.2.2.2.2.2.2.2.2.2.2.2.1
def dX1_addUp_87 := edX1_addUp_59.2.2.2.2.2.2.2.2.2.2.2.2.2.2.1
def dX1_addUp_88 := edX1_addUp_59.2.2.2.2.2.2.2.2.2.2.2.2.2.2.2
theorem edX1_addUp_89 : (decode cX1_addUp 89 = .ok (.getfield 152, 3)) ∧ (decode cX1_addUp 92 = .ok (.aload_n 0, 1)) ∧ (decode cX1_addUp 93 = .ok (.getfield 80, 3)) ∧ (decode cX1_addUp 96 = .ok (.i2l, 1)) ∧ (decode cX1_addUp 97 = .ok (.aload_n 0, 1)) ∧ (decode cX1_addUp 98 = .ok (.getfield 86, 3)) ∧ (decode cX1_addUp 101 = .ok (.iload_n 2, 1)) ∧ (decode cX1_addUp 102 = .ok (.isub, 1)) ∧ (decode cX1_addUp 103 = .ok (.i2l, 1)) ∧ (decode cX1_addUp 104 = .ok (.lmul, 1)) ∧ (decode cX1_addUp 105 = .ok (.ladd, 1)) ∧ (decode cX1_addUp 106 = .ok (.putfield 152, 3)) ∧ (decode cX1_addUp 109 = .ok (.aload_n 0, 1)) ∧ (decode cX1_addUp 110 = .ok (.dup, 1)) ∧ (decode cX1_addUp 111 = .ok (.getfield 152, 3)) ∧ (decode cX1_addUp 114 = .ok (.aload_n 0, 1)) := by decide +kernel
def dX1_addUp_89 := edX1_addUp_89.1
def dX1_addUp_92 := edX1_addUp_89.2.1
def dX1_addUp_93 := edX1_addUp_89.2.2.1
def dX1_addUp_96 := edX1_addUp_89.2.2.2.1
def dX1_addUp_97 := edX1_addUp_89.2.2.2.2.1
def dX1_addUp_98 := edX1_addUp_89.2.2.2.2.2.1
def dX1_addUp_101 := edX1_addUp_89.2.2.2.2.2.2.1
def dX1_addUp_102 := edX1_addUp_89.2.2.2.2.2.2.2.1
def dX1_addUp_103 := edX1_addUp_89.2.2.2.2.2.2.2.2.1
def dX1_addUp_104 := edX1_addUp_89.2.2.2.2.2.2.2.2.2.1
def dX1_addUp_105 := edX1_addUp_89.2.2.2.2.2.2.2.2.2.2.1
def dX1_addUp_106 := edX1_addUp_89.2.2.2.2.2.2.2.2.2.2.2.1
def dX1_addUp_109 := edX1_addUp_89.2.2.2.2.2.2.2.2.2.2.2.2.1
def dX1_addUp_110 := edX1_addUp_89.2.2.2.2.2.2.2.2.2.2.2.2.2.1
def dX1_addUp_111 := edX1_addUp_89.2.2.2.2.2.2.2.2.2.2.2.2.2.2.1
def dX1_addUp_114 := edX1_addUp_89.2.2.2.2.2.2.2.2.2.2.2.2.2.2.2
theorem edX1_addUp_115 : (decode cX1_addUp 115 = .ok (.getfield 83, 3)) ∧ (decode cX1_addUp 118 = .ok (.i2l, 1)) ∧ (decode cX1_addUp 119 = .ok (.aload_n 1, 1)) ∧ (decode cX1_addUp 120 = .ok (.getfield 65, 3)) ∧ (decode cX1_addUp 123 = .ok (.i2l, 1)) ∧ (decode cX1_addUp 124 = .ok (.lmul, 1)) ∧ (decode cX1_addUp 125 = .ok (.ladd, 1)) ∧ (decode cX1_addUp 126 = .ok (.putfield 152, 3)) ∧ (decode cX1_addUp 129 = .ok (.aload_n 0, 1)) ∧ (decode cX1_addUp 130 = .ok (.dup, 1)) ∧ (decode cX1_addUp 131 = .ok (.getfield 159, 3)) ∧ (decode cX1_addUp 134 = .ok (.aload_n 1, 1)) ∧ (decode cX1_addUp 135 = .ok (.getfield 45, 3)) ∧ (decode cX1_addUp 138 = .ok (.i2l, 1)) ∧ (decode cX1_addUp 139 = .ok (.aload_n 0, 1)) ∧ (decode cX1_addUp 140 = .ok (.getfield 86, 3)) := by decide +kernel
def dX1_addUp_115 := edX1_addUp_115.1
def dX1_addUp_118 := edX1_addUp_115.2.1
def dX1_addUp_119 := edX1_addUp_115.2.2.1
def dX1_addUp_120 := edX1_addUp_115.2.2.2.1
def dX1_addUp_123 := edX1_addUp_115.2.2.2.2.1
def dX1_addUp_124 := edX1_addUp_115.2.2.2.2.2.1
def dX1_addUp_125 := edX1_addUp_115.2.2.2.2.2.2.1
def dX1_addUp_126 := edX1_addUp_115.2.2.2.2.2.2.2.1
def dX1_addUp_129 := edX1_addUp_115.2.2.2.2.2.2.2.2.1
def dX1_addUp_130 := edX1_addUp_115.2.2.2.2.2.2.2.2.2.1
def dX1_addUp_131 := edX1_addUp_115.2.2.2.2.2.2.2.2.2.2.1
def dX1_addUp_134 := edX1_addUp_115.2.2.2.2.2.2.2.2.2.2.2.1
def dX1_addUp_135 := edX1_addUp_115.2.2.2.2.2.2.2.2.2.2.2.2.1
def dX1_addUp_138 := edX1_addUp_115.2.2.2.2.2.2.2.2.2.2.2.2.2.1
def dX1_addUp_139 := edX1_addUp_115.2.2.2.2.2.2.2.2.2.2.2.2.2.2.1
def dX1_addUp_140 := edX1_addUp_115.2.2.2.2.2.2.2.2.2.2.2.2.2.2.2
theorem edX1_addUp_143 : (decode cX1_addUp 143 = .ok (.i2l, 1)) ∧ (decode cX1_addUp 144 = .ok (.lmul, 1)) ∧ (decode cX1_addUp 145 = .ok (.ladd, 1)) ∧ (decode cX1_addUp 146 = .ok (.putfield 159, 3)) ∧ (decode cX1_addUp 149 = .ok (.return_, 1)) := by decide +kernel
def dX1_addUp_143 := edX1_addUp_143.1
def dX1_addUp_144 := edX1_addUp_143.2.1
def dX1_addUp_145 := edX1_addUp_143.2.2.1
def dX1_addUp_146 := edX1_addUp_143.2.2.2.1
def dX1_addUp_149 := edX1_addUp_143.2.2.2.2
set_option maxRecDepth 100000 in
theorem ggX1_takeFromStore_X11_get : GoodIn wsX1_takeFromStore wsX11_get := goodIn_s _ [] [15] (by decide +kernel) rfl (by decide +kernel)
set_option maxRecDepth 20000 in
theorem gX1_takeFromStore_X11_get_n106 : GoodIn wsX1_takeFromStore (wsX11_get) := ggX1_takeFromStore_X11_get
set_option maxRecDepth 100000 in
theorem ggX1_takeFromStore_X8_pressure : GoodIn wsX1_takeFromStore wsX8_pressure := goodIn_ca (b := wsX80) (goodIn_s _ [21, 22, 23] [20] (by decide +kernel) rfl (by decide +kernel)) (goodIn_sub (fun w h => List.mem_cons_of_mem _ (List.mem_append_right _ h)) gs_wsX80)
set_option maxRecDepth 20000 in
theorem gX1_takeFromStore_X8_pressure : GoodIn wsX1_takeFromStore (wsV RX1 59 RX8 yX8_pressure wsX8_pressure) := goodIn_app (goodIn_of _ (by decide +kernel)) ggX1_takeFromStore_X8_pressure
set_option maxRecDepth 100000 in
theorem ggX1_takeFromStore_X1_give : GoodIn wsX1_takeFromStore wsX1_give := goodIn_ca (b := wsX70) (goodIn_ca (b := wsX10) (goodIn_s _ [6, 29, 13, 14, 30] [28, 15, 31] (by decide +kernel) rfl (by decide +kernel)) (goodIn_sub (fun w h => List.mem_cons_of_mem _ (List.mem_append_left _ (List.mem_append_left _ (List.mem_append_right _ h)))) gs_wsX10)) (goodIn_sub (fun w h => List.mem_cons_of_mem _ (List.mem_append_left _ (List.mem_append_right _ h))) gs_wsX70)
set_option maxRecDepth 20000 in
theorem gX1_takeFromStore_X1_give : GoodIn wsX1_takeFromStore (wsV RX1 148 RX1 yX1_give wsX1_give) := goodIn_app (goodIn_of _ (by decide +kernel)) ggX1_takeFromStore_X1_give
theorem edX1_takeFromStore_0 : (decode cX1_takeFromStore 0 = .ok (.iconst 0, 1)) ∧ (decode cX1_takeFromStore 1 = .ok (.istore_n 2, 1)) ∧ (decode cX1_takeFromStore 2 = .ok (.iload_n 2, 1)) ∧ (decode cX1_takeFromStore 3 = .ok (.aload_n 0, 1)) ∧ (decode cX1_takeFromStore 4 = .ok (.getfield 129, 3)) ∧ (decode cX1_takeFromStore 7 = .ok (.if_icmp .ge 98, 3)) ∧ (decode cX1_takeFromStore 10 = .ok (.aload_n 0, 1)) ∧ (decode cX1_takeFromStore 11 = .ok (.getfield 15, 3)) ∧ (decode cX1_takeFromStore 14 = .ok (.iload_n 2, 1)) ∧ (decode cX1_takeFromStore 15 = .ok (.invokestatic 106, 3)) ∧ (decode cX1_takeFromStore 18 = .ok (.istore_n 3, 1)) ∧ (decode cX1_takeFromStore 19 = .ok (.aload_n 1, 1)) ∧ (decode cX1_takeFromStore 20 = .ok (.getfield 53, 3)) ∧ (decode cX1_takeFromStore 23 = .ok (.invokevirtual 59, 3)) ∧ (decode cX1_takeFromStore 26 = .ok (.aload_n 0, 1)) ∧ (decode cX1_takeFromStore 27 = .ok (.getfield 18, 3)) := by decide +kernel
def dX1_takeFromStore_0 := edX1_takeFromStore_0.1
def dX1_takeFromStore_1 := edX1_takeFromStore_0.2.1
def dX1_takeFromStore_2 := edX1_takeFromStore_0.2.2.1
def dX1_takeFromStore_3 := edX1_takeFromStore_0.2.2.2.1
def dX1_takeFromStore_4 := edX1_takeFromStore_0.2.2.2.2.1
def dX1_takeFromStore_7 := edX1_takeFromStore_0.2.2.2.2.2.1
def dX1_takeFromStore_10 := edX1_takeFromStore_0.2.2.2.2.2.2.1
def dX1_takeFromStore_11 := edX1_takeFromStore_0.2.2.2.2.2.2.2.1
def dX1_takeFromStore_14 := edX1_takeFromStore_0.2.2.2.2.2.2.2.2.1
def dX1_takeFromStore_15 := edX1_takeFromStore_0.2.2.2.2.2.2.2.2.2.1
def dX1_takeFromStore_18 := edX1_takeFromStore_0.2.2.2.2.2.2.2.2.2.2.1
def dX1_takeFromStore_19 := edX1_takeFromStore_0.2.2.2.2.2.2.2.2.2.2.2.1
def dX1_takeFromStore_20 := edX1_takeFromStore_0.2.2.2.2.2.2.2.2.2.2.2.2.1
def dX1_takeFromStore_23 := edX1_takeFromStore_0.2.2.2.2.2.2.2.2.2.2.2.2.2.1
def dX1_takeFromStore_26 := edX1_takeFromStore_0.2.2.2.2.2.2.2.2.2.2.2.2.2.2.1
def dX1_takeFromStore_27 := edX1_takeFromStore_0.2.2.2.2.2.2.2.2.2.2.2.2.2.2.2
theorem edX1_takeFromStore_30 : (decode cX1_takeFromStore 30 = .ok (.iload_n 3, 1)) ∧ (decode cX1_takeFromStore 31 = .ok (.invokestatic 106, 3)) ∧ (decode cX1_takeFromStore 34 = .ok (.if_icmp .lt 65, 3)) ∧ (decode cX1_takeFromStore 37 = .ok (.aload_n 0, 1)) ∧ (decode cX1_takeFromStore 38 = .ok (.getfield 21, 3)) ∧ (decode cX1_takeFromStore 41 = .ok (.iload_n 3, 1)) ∧ (decode cX1_takeFromStore 42 = .ok (.invokestatic 106, 3)) ∧ (decode cX1_takeFromStore 45 = .ok (.aload_n 0, 1)) ∧ (decode cX1_takeFromStore 46 = .ok (.getfield 9, 3)) ∧ (decode cX1_takeFromStore 49 = .ok (.iload_n 3, 1)) ∧ (decode cX1_takeFromStore 50 = .ok (.invokestatic 106, 3)) ∧ (decode cX1_takeFromStore 53 = .ok (.isub, 1)) ∧ (decode cX1_takeFromStore 54 = .ok (.aload_n 1, 1)) ∧ (decode cX1_takeFromStore 55 = .ok (.getfield 53, 3)) ∧ (decode cX1_takeFromStore 58 = .ok (.getfield 71, 3)) ∧ (decode cX1_takeFromStore 61 = .ok (.invokestatic 74, 3)) := by decide +kernel
def dX1_takeFromStore_30 := edX1_takeFromStore_30.1
def dX1_takeFromStore_31 := edX1_takeFromStore_30.2.1
def dX1_takeFromStore_34 := edX1_takeFromStore_30.2.2.1
def dX1_takeFromStore_37 := edX1_takeFromStore_30.2.2.2.1
def dX1_takeFromStore_38 := edX1_takeFromStore_30.2.2.2.2.1
def dX1_takeFromStore_41 := edX1_takeFromStore_30.2.2.2.2.2.1
def dX1_takeFromStore_42 := edX1_takeFromStore_30.2.2.2.2.2.2.1
def dX1_takeFromStore_45 := edX1_takeFromStore_30.2.2.2.2.2.2.2.1
def dX1_takeFromStore_46 := edX1_takeFromStore_30.2.2.2.2.2.2.2.2.1
def dX1_takeFromStore_49 := edX1_takeFromStore_30.2.2.2.2.2.2.2.2.2.1
def dX1_takeFromStore_50 := edX1_takeFromStore_30.2.2.2.2.2.2.2.2.2.2.1
def dX1_takeFromStore_53 := edX1_takeFromStore_30.2.2.2.2.2.2.2.2.2.2.2.1
def dX1_takeFromStore_54 := edX1_takeFromStore_30.2.2.2.2.2.2.2.2.2.2.2.2.1
def dX1_takeFromStore_55 := edX1_takeFromStore_30.2.2.2.2.2.2.2.2.2.2.2.2.2.1
def dX1_takeFromStore_58 := edX1_takeFromStore_30.2.2.2.2.2.2.2.2.2.2.2.2.2.2.1
def dX1_takeFromStore_61 := edX1_takeFromStore_30.2.2.2.2.2.2.2.2.2.2.2.2.2.2.2
theorem edX1_takeFromStore_64 : (decode cX1_takeFromStore 64 = .ok (.istore 4, 2)) ∧ (decode cX1_takeFromStore 66 = .ok (.aload_n 0, 1)) ∧ (decode cX1_takeFromStore 67 = .ok (.iload_n 3, 1)) ∧ (decode cX1_takeFromStore 68 = .ok (.iload 4, 2)) ∧ (decode cX1_takeFromStore 70 = .ok (.aload_n 1, 1)) ∧ (decode cX1_takeFromStore 71 = .ok (.invokevirtual 148, 3)) ∧ (decode cX1_takeFromStore 74 = .ok (.aload_n 1, 1)) ∧ (decode cX1_takeFromStore 75 = .ok (.getfield 53, 3)) ∧ (decode cX1_takeFromStore 78 = .ok (.dup, 1)) ∧ (decode cX1_takeFromStore 79 = .ok (.getfield 71, 3)) ∧ (decode cX1_takeFromStore 82 = .ok (.iload 4, 2)) ∧ (decode cX1_takeFromStore 84 = .ok (.isub, 1)) ∧ (decode cX1_takeFromStore 85 = .ok (.putfield 71, 3)) ∧ (decode cX1_takeFromStore 88 = .ok (.aload_n 0, 1)) ∧ (decode cX1_takeFromStore 89 = .ok (.dup, 1)) ∧ (decode cX1_takeFromStore 90 = .ok (.getfield 80, 3)) := by decide +kernel
def dX1_takeFromStore_64 := edX1_takeFromStore_64.1
def dX1_takeFromStore_66 := edX1_takeFromStore_64.2.1
def dX1_takeFromStore_67 := edX1_takeFromStore_64.2.2.1
def dX1_takeFromStore_68 := edX1_takeFromStore_64.2.2.2.1
def dX1_takeFromStore_70 := edX1_takeFromStore_64.2.2.2.2.1
def dX1_takeFromStore_71 := edX1_takeFromStore_64.2.2.2.2.2.1
def dX1_takeFromStore_74 := edX1_takeFromStore_64.2.2.2.2.2.2.1
def dX1_takeFromStore_75 := edX1_takeFromStore_64.2.2.2.2.2.2.2.1
def dX1_takeFromStore_78 := edX1_takeFromStore_64.2.2.2.2.2.2.2.2.1
def dX1_takeFromStore_79 := edX1_takeFromStore_64.2.2.2.2.2.2.2.2.2.1
def dX1_takeFromStore_82 := edX1_takeFromStore_64.2.2.2.2.2.2.2.2.2.2.1
def dX1_takeFromStore_84 := edX1_takeFromStore_64.2.2.2.2.2.2.2.2.2.2.2.1
def dX1_takeFromStore_85 := edX1_takeFromStore_64.2.2.2.2.2.2.2.2.2.2.2.2.1
def dX1_takeFromStore_88 := edX1_takeFromStore_64.2.2.2.2.2.2.2.2.2.2.2.2.2.1
def dX1_takeFromStore_89 := edX1_takeFromStore_64.2.2.2.2.2.2.2.2.2.2.2.2.2.2.1
def dX1_takeFromStore_90 := edX1_takeFromStore_64.2.2.2.2.2.2.2.2.2.2.2.2.2.2.2
theorem edX1_takeFromStore_93 : (decode cX1_takeFromStore 93 = .ok (.iload 4, 2)) ∧ (decode cX1_takeFromStore 95 = .ok (.isub, 1)) ∧ (decode cX1_takeFromStore 96 = .ok (.putfield 80, 3)) ∧ (decode cX1_takeFromStore 99 = .ok (.iinc 2 1, 3)) ∧ (decode cX1_takeFromStore 102 = .ok (.goto (-100), 3)) ∧ (decode cX1_takeFromStore 105 = .ok (.return_, 1)) := by decide +kernel
def dX1_takeFromStore_93 := edX1_takeFromStore_93.1
def dX1_takeFromStore_95 := edX1_takeFromStore_93.2.1
def dX1_takeFromStore_96 := edX1_takeFromStore_93.2.2.1
def dX1_takeFromStore_99 := edX1_takeFromStore_93.2.2.2.1
def dX1_takeFromStore_102 := edX1_takeFromStore_93.2.2.2.2.1
def dX1_takeFromStore_105 := edX1_takeFromStore_93.2.2.2.2.2
set_option maxRecDepth 100000 in
theorem ggX2_init_X0_init : GoodIn wsX2_init wsX0_init := goodIn_ca (b := wsX100) (goodIn_ca (b := wsX20) (goodIn_ca (b := wsX00) (goodIn_s _ [5, 6, 8, 9, 10, 11, 12, 13, 14] [4, 7] (by decide +kernel) rfl (by decide +kernel)) (goodIn_sub (fun w h => List.mem_cons_of_mem _ (List.mem_append_left _ (List.mem_append_left _ (List.mem_append_right _ h)))) gs_wsX00)) (goodIn_sub (fun w h => List.mem_cons_of_mem _ (List.mem_append_left _ (List.mem_append_right _ h))) gs_wsX20)) (goodIn_sub (fun w h => List.mem_cons_of_mem _ (List.mem_append_right _ h)) gs_wsX100)
set_option maxRecDepth 20000 in
theorem gX2_init_X0_init : GoodIn wsX2_init (wsX0_init) := ggX2_init_X0_init
theorem edX2_init_0 : (decode cX2_init 0 = .ok (.aload_n 0, 1)) ∧ (decode cX2_init 1 = .ok (.iload_n 1, 1)) ∧ (decode cX2_init 2 = .ok (.iload_n 2, 1)) ∧ (decode cX2_init 3 = .ok (.iload_n 3, 1)) ∧ (decode cX2_init 4 = .ok (.invokespecial 1, 3)) ∧ (decode cX2_init 7 = .ok (.return_, 1)) := by decide +kernel
def dX2_init_0 := edX2_init_0.1
def dX2_init_1 := edX2_init_0.2.1
def dX2_init_2 := edX2_init_0.2.2.1
def dX2_init_3 := edX2_init_0.2.2.2.1
def dX2_init_4 := edX2_init_0.2.2.2.2.1
def dX2_init_7 := edX2_init_0.2.2.2.2.2
theorem edX2_kind_0 : (decode cX2_kind 0 = .ok (.iconst 1, 1)) ∧ (decode cX2_kind 1 = .ok (.ireturn, 1)) := by decide +kernel
def dX2_kind_0 := edX2_kind_0.1
def dX2_kind_1 := edX2_kind_0.2
set_option maxRecDepth 100000 in
theorem ggX2_toldBy_X9_leave : GoodIn wsX2_toldBy wsX9_leave := goodIn_ca (b := wsX90) (goodIn_s _ [7] [6] (by decide +kernel) rfl (by decide +kernel)) (goodIn_sub (fun w h => List.mem_cons_of_mem _ (List.mem_append_right _ h)) gs_wsX90)
set_option maxRecDepth 20000 in
theorem gX2_toldBy_X9_leave : GoodIn wsX2_toldBy (wsV RX2 7 RX9 yX9_leave wsX9_leave) := goodIn_app (goodIn_of _ (by decide +kernel)) ggX2_toldBy_X9_leave
set_option maxRecDepth 100000 in
theorem ggX2_toldBy_X0_plainlyTold : GoodIn wsX2_toldBy wsX0_plainlyTold := goodIn_ca (b := wsX90) (goodIn_s _ [14, 3, 4, 5, 7] [13, 6] (by decide +kernel) rfl (by decide +kernel)) (goodIn_sub (fun w h => List.mem_cons_of_mem _ (List.mem_append_right _ h)) gs_wsX90)
set_option maxRecDepth 20000 in
theorem gX2_toldBy_X0_plainlyTold_u13X2 : GoodIn wsX2_toldBy (va_wsU RX2 13 RX2 "OilPush$Cylinder" ⟨"OilPush$Held", "plainlyTold", "(LOilPush$Trace;I)I"⟩ yX0_plainlyTold wsX0_plainlyTold) := goodIn_app (goodIn_of _ (by decide +kernel)) ggX2_toldBy_X0_plainlyTold
theorem edX2_toldBy_0 : (decode cX2_toldBy 0 = .ok (.aload_n 1, 1)) ∧ (decode cX2_toldBy 1 = .ok (.iconst 2, 1)) ∧ (decode cX2_toldBy 2 = .ok (.invokevirtual 7, 3)) ∧ (decode cX2_toldBy 5 = .ok (.aload_n 0, 1)) ∧ (decode cX2_toldBy 6 = .ok (.aload_n 1, 1)) ∧ (decode cX2_toldBy 7 = .ok (.iload_n 2, 1)) ∧ (decode cX2_toldBy 8 = .ok (.invokevirtual 13, 3)) ∧ (decode cX2_toldBy 11 = .ok (.ldc 19, 2)) ∧ (decode cX2_toldBy 13 = .ok (.iadd, 1)) ∧ (decode cX2_toldBy 14 = .ok (.ireturn, 1)) := by decide +kernel
def dX2_toldBy_0 := edX2_toldBy_0.1
def dX2_toldBy_1 := edX2_toldBy_0.2.1
def dX2_toldBy_2 := edX2_toldBy_0.2.2.1
def dX2_toldBy_5 := edX2_toldBy_0.2.2.2.1
def dX2_toldBy_6 := edX2_toldBy_0.2.2.2.2.1
def dX2_toldBy_7 := edX2_toldBy_0.2.2.2.2.2.1
def dX2_toldBy_8 := edX2_toldBy_0.2.2.2.2.2.2.1
def dX2_toldBy_11 := edX2_toldBy_0.2.2.2.2.2.2.2.1
def dX2_toldBy_13 := edX2_toldBy_0.2.2.2.2.2.2.2.2.1
def dX2_toldBy_14 := edX2_toldBy_0.2.2.2.2.2.2.2.2.2
theorem edX3_init_0 : (decode cX3_init 0 = .ok (.aload_n 0, 1)) ∧ (decode cX3_init 1 = .ok (.invokespecial 3, 3)) ∧ (decode cX3_init 4 = .ok (.aload_n 0, 1)) ∧ (decode cX3_init 5 = .ok (.bipush 30, 2)) ∧ (decode cX3_init 7 = .ok (.newarray .int, 2)) ∧ (decode cX3_init 9 = .ok (.putfield 9, 3)) ∧ (decode cX3_init 12 = .ok (.aload_n 0, 1)) ∧ (decode cX3_init 13 = .ok (.bipush 30, 2)) ∧ (decode cX3_init 15 = .ok (.newarray .int, 2)) ∧ (decode cX3_init 17 = .ok (.putfield 15, 3)) ∧ (decode cX3_init 20 = .ok (.aload_n 0, 1)) ∧ (decode cX3_init 21 = .ok (.bipush 30, 2)) ∧ (decode cX3_init 23 = .ok (.newarray .int, 2)) ∧ (decode cX3_init 25 = .ok (.putfield 18, 3)) ∧ (decode cX3_init 28 = .ok (.aload_n 0, 1)) ∧ (decode cX3_init 29 = .ok (.bipush 30, 2)) := by decide +kernel
def dX3_init_0 := edX3_init_0.1
def dX3_init_1 := edX3_init_0.2.1
def dX3_init_4 := edX3_init_0.2.2.1
def dX3_init_5 := edX3_init_0.2.2.2.1
def dX3_init_7 := edX3_init_0.2.2.2.2.1
def dX3_init_9 := edX3_init_0.2.2.2.2.2.1
def dX3_init_12 := edX3_init_0.2.2.2.2.2.2.1
def dX3_init_13 := edX3_init_0.2.2.2.2.2.2.2.1
def dX3_init_15 := edX3_init_0.2.2.2.2.2.2.2.2.1
def dX3_init_17 := edX3_init_0.2.2.2.2.2.2.2.2.2.1
def dX3_init_20 := edX3_init_0.2.2.2.2.2.2.2.2.2.2.1
def dX3_init_21 := edX3_init_0.2.2.2.2.2.2.2.2.2.2.2.1
def dX3_init_23 := edX3_init_0.2.2.2.2.2.2.2.2.2.2.2.2.1
def dX3_init_25 := edX3_init_0.2.2.2.2.2.2.2.2.2.2.2.2.2.1
def dX3_init_28 := edX3_init_0.2.2.2.2.2.2.2.2.2.2.2.2.2.2.1
def dX3_init_29 := edX3_init_0.2.2.2.2.2.2.2.2.2.2.2.2.2.2.2
theorem edX3_init_31 : (decode cX3_init 31 = .ok (.newarray .int, 2)) ∧ (decode cX3_init 33 = .ok (.putfield 21, 3)) ∧ (decode cX3_init 36 = .ok (.return_, 1)) := by decide +kernel
def dX3_init_31 := edX3_init_31.1
def dX3_init_33 := edX3_init_31.2.1
def dX3_init_36 := edX3_init_31.2.2
set_option maxRecDepth 100000 in
theorem ggX3_add_X11_set : GoodIn wsX3_add wsX11_set := goodIn_s _ [] [8] (by decide +kernel) rfl (by decide +kernel)
set_option maxRecDepth 20000 in
theorem gX3_add_X11_set_n28 : GoodIn wsX3_add (wsX11_set) := ggX3_add_X11_set
theorem edX3_add_0 : (decode cX3_add 0 = .ok (.aload_n 0, 1)) ∧ (decode cX3_add 1 = .ok (.getfield 24, 3)) ∧ (decode cX3_add 4 = .ok (.bipush 30, 2)) ∧ (decode cX3_add 6 = .ok (.if_icmp .lt 5, 3)) ∧ (decode cX3_add 9 = .ok (.iconst 0, 1)) ∧ (decode cX3_add 10 = .ok (.ireturn, 1)) ∧ (decode cX3_add 11 = .ok (.aload_n 0, 1)) ∧ (decode cX3_add 12 = .ok (.getfield 9, 3)) ∧ (decode cX3_add 15 = .ok (.aload_n 0, 1)) ∧ (decode cX3_add 16 = .ok (.getfield 24, 3)) ∧ (decode cX3_add 19 = .ok (.iload_n 1, 1)) ∧ (decode cX3_add 20 = .ok (.invokestatic 28, 3)) ∧ (decode cX3_add 23 = .ok (.aload_n 0, 1)) ∧ (decode cX3_add 24 = .ok (.getfield 15, 3)) ∧ (decode cX3_add 27 = .ok (.aload_n 0, 1)) ∧ (decode cX3_add 28 = .ok (.getfield 24, 3)) := by decide +kernel
def dX3_add_0 := edX3_add_0.1
def dX3_add_1 := edX3_add_0.2.1
def dX3_add_4 := edX3_add_0.2.2.1
def dX3_add_6 := edX3_add_0.2.2.2.1
def dX3_add_9 := edX3_add_0.2.2.2.2.1
def dX3_add_10 := edX3_add_0.2.2.2.2.2.1
def dX3_add_11 := edX3_add_0.2.2.2.2.2.2.1
def dX3_add_12 := edX3_add_0.2.2.2.2.2.2.2.1
def dX3_add_15 := edX3_add_0.2.2.2.2.2.2.2.2.1
def dX3_add_16 := edX3_add_0.2.2.2.2.2.2.2.2.2.1
def dX3_add_19 := edX3_add_0.2.2.2.2.2.2.2.2.2.2.1
def dX3_add_20 := edX3_add_0.2.2.2.2.2.2.2.2.2.2.2.1
def dX3_add_23 := edX3_add_0.2.2.2.2.2.2.2.2.2.2.2.2.1
def dX3_add_24 := edX3_add_0.2.2.2.2.2.2.2.2.2.2.2.2.2.1
def dX3_add_27 := edX3_add_0.2.2.2.2.2.2.2.2.2.2.2.2.2.2.1
def dX3_add_28 := edX3_add_0.2.2.2.2.2.2.2.2.2.2.2.2.2.2.2
theorem edX3_add_31 : (decode cX3_add 31 = .ok (.iload_n 2, 1)) ∧ (decode cX3_add 32 = .ok (.invokestatic 28, 3)) ∧ (decode cX3_add 35 = .ok (.aload_n 0, 1)) ∧ (decode cX3_add 36 = .ok (.getfield 18, 3)) ∧ (decode cX3_add 39 = .ok (.aload_n 0, 1)) ∧ (decode cX3_add 40 = .ok (.getfield 24, 3)) ∧ (decode cX3_add 43 = .ok (.iload_n 3, 1)) ∧ (decode cX3_add 44 = .ok (.invokestatic 28, 3)) ∧ (decode cX3_add 47 = .ok (.aload_n 0, 1)) ∧ (decode cX3_add 48 = .ok (.getfield 21, 3)) ∧ (decode cX3_add 51 = .ok (.aload_n 0, 1)) ∧ (decode cX3_add 52 = .ok (.getfield 24, 3)) ∧ (decode cX3_add 55 = .ok (.iload 4, 2)) ∧ (decode cX3_add 57 = .ok (.invokestatic 28, 3)) ∧ (decode cX3_add 60 = .ok (.aload_n 0, 1)) ∧ (decode cX3_add 61 = .ok (.dup, 1)) := by decide +kernel
def dX3_add_31 := edX3_add_31.1
def dX3_add_32 := edX3_add_31.2.1
def dX3_add_35 := edX3_add_31.2.2.1
def dX3_add_36 := edX3_add_31.2.2.2.1
def dX3_add_39 := edX3_add_31.2.2.2.2.1
def dX3_add_40 := edX3_add_31.2.2.2.2.2.1
def dX3_add_43 := edX3_add_31.2.2.2.2.2.2.1
def dX3_add_44 := edX3_add_31.2.2.2.2.2.2.2.1
def dX3_add_47 := edX3_add_31.2.2.2.2.2.2.2.2.1
def dX3_add_48 := edX3_add_31.2.2.2.2.2.2.2.2.2.1
def dX3_add_51 := edX3_add_31.2.2.2.2.2.2.2.2.2.2.1
def dX3_add_52 := edX3_add_31.2.2.2.2.2.2.2.2.2.2.2.1
def dX3_add_55 := edX3_add_31.2.2.2.2.2.2.2.2.2.2.2.2.1
def dX3_add_57 := edX3_add_31.2.2.2.2.2.2.2.2.2.2.2.2.2.1
def dX3_add_60 := edX3_add_31.2.2.2.2.2.2.2.2.2.2.2.2.2.2.1
def dX3_add_61 := edX3_add_31.2.2.2.2.2.2.2.2.2.2.2.2.2.2.2
