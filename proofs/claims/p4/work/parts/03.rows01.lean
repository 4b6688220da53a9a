theorem edX3_add_62 : (decode cX3_add 62 = .ok (.getfield 24, 3)) ∧ (decode cX3_add 65 = .ok (.iconst 1, 1)) ∧ (decode cX3_add 66 = .ok (.iadd, 1)) ∧ (decode cX3_add 67 = .ok (.putfield 24, 3)) ∧ (decode cX3_add 70 = .ok (.iconst 1, 1)) ∧ (decode cX3_add 71 = .ok (.ireturn, 1)) := by decide +kernel
def dX3_add_62 := edX3_add_62.1
def dX3_add_65 := edX3_add_62.2.1
def dX3_add_66 := edX3_add_62.2.2.1
def dX3_add_67 := edX3_add_62.2.2.2.1
def dX3_add_70 := edX3_add_62.2.2.2.2.1
def dX3_add_71 := edX3_add_62.2.2.2.2.2
set_option maxRecDepth 100000 in
theorem ggX3_obey_X11_get : GoodIn wsX3_obey wsX11_get := goodIn_s _ [] [12] (by decide +kernel) rfl (by decide +kernel)
set_option maxRecDepth 20000 in
theorem gX3_obey_X11_get_n37 : GoodIn wsX3_obey (wsX11_get) := ggX3_obey_X11_get
set_option maxRecDepth 100000 in
theorem ggX3_obey_X4_at : GoodIn wsX3_obey wsX4_at := goodIn_ca (b := wsX40) (goodIn_s _ [18, 19] [17] (by decide +kernel) rfl (by decide +kernel)) (goodIn_sub (fun w h => List.mem_cons_of_mem _ (List.mem_append_right _ h)) gs_wsX40)
set_option maxRecDepth 20000 in
theorem gX3_obey_X4_at : GoodIn wsX3_obey (wsV RX3 41 RX4 yX4_at wsX4_at) := goodIn_app (goodIn_of _ (by decide +kernel)) ggX3_obey_X4_at
set_option maxRecDepth 100000 in
theorem ggX3_obey_X0_isAt : GoodIn wsX3_obey wsX0_isAt := goodIn_ca (b := wsX100) (goodIn_ca (b := wsX20) (goodIn_ca (b := wsX00) (goodIn_s _ [25, 26, 27, 23, 29, 30, 31, 32, 33, 34] [24, 28] (by decide +kernel) rfl (by decide +kernel)) (goodIn_sub (fun w h => List.mem_cons_of_mem _ (List.mem_append_left _ (List.mem_append_left _ (List.mem_append_left _ (List.mem_append_right _ h))))) gs_wsX00)) (goodIn_sub (fun w h => List.mem_cons_of_mem _ (List.mem_append_left _ (List.mem_append_left _ (List.mem_append_right _ h)))) gs_wsX20)) (goodIn_sub (fun w h => List.mem_cons_of_mem _ (List.mem_append_left _ (List.mem_append_right _ h))) gs_wsX100)
set_option maxRecDepth 20000 in
theorem gX3_obey_X0_isAt : GoodIn wsX3_obey (wsV RX3 55 RX0 yX0_isAt wsX0_isAt) := goodIn_app (goodIn_of _ (by decide +kernel)) ggX3_obey_X0_isAt
set_option maxRecDepth 20000 in
theorem gX3_obey_X0_isAt_u55X2 : GoodIn wsX3_obey (va_wsU RX3 55 RX2 "OilPush$Cylinder" ⟨"OilPush$Cylinder", "isAt", "(II)Z"⟩ yX0_isAt wsX0_isAt) := goodIn_app (goodIn_of _ (by decide +kernel)) ggX3_obey_X0_isAt
set_option maxRecDepth 20000 in
theorem gX3_obey_X0_isAt_u55X10 : GoodIn wsX3_obey (va_wsU RX3 55 RX10 "OilPush$Cylinder" ⟨"OilPush$Cylinder", "isAt", "(II)Z"⟩ yX0_isAt wsX0_isAt) := goodIn_app (goodIn_of _ (by decide +kernel)) ggX3_obey_X0_isAt
set_option maxRecDepth 100000 in
theorem ggX3_obey_X11_set : GoodIn wsX3_obey wsX11_set := goodIn_s _ [] [40] (by decide +kernel) rfl (by decide +kernel)
set_option maxRecDepth 20000 in
theorem gX3_obey_X11_set_n28 : GoodIn wsX3_obey (wsX11_set) := ggX3_obey_X11_set
theorem edX3_obey_0 : (decode cX3_obey 0 = .ok (.aload_n 2, 1)) ∧ (decode cX3_obey 1 = .ok (.getfield 32, 3)) ∧ (decode cX3_obey 4 = .ok (.istore_n 3, 1)) ∧ (decode cX3_obey 5 = .ok (.iload_n 3, 1)) ∧ (decode cX3_obey 6 = .ok (.aload_n 0, 1)) ∧ (decode cX3_obey 7 = .ok (.getfield 24, 3)) ∧ (decode cX3_obey 10 = .ok (.if_icmp .ge 87, 3)) ∧ (decode cX3_obey 13 = .ok (.aload_n 1, 1)) ∧ (decode cX3_obey 14 = .ok (.aload_n 0, 1)) ∧ (decode cX3_obey 15 = .ok (.getfield 9, 3)) ∧ (decode cX3_obey 18 = .ok (.iload_n 3, 1)) ∧ (decode cX3_obey 19 = .ok (.invokestatic 37, 3)) ∧ (decode cX3_obey 22 = .ok (.invokevirtual 41, 3)) ∧ (decode cX3_obey 25 = .ok (.astore 4, 2)) ∧ (decode cX3_obey 27 = .ok (.aload 4, 2)) ∧ (decode cX3_obey 29 = .ok (.ifnull 31, 3)) := by decide +kernel
def dX3_obey_0 := edX3_obey_0.1
def dX3_obey_1 := edX3_obey_0.2.1
def dX3_obey_4 := edX3_obey_0.2.2.1
def dX3_obey_5 := edX3_obey_0.2.2.2.1
def dX3_obey_6 := edX3_obey_0.2.2.2.2.1
def dX3_obey_7 := edX3_obey_0.2.2.2.2.2.1
def dX3_obey_10 := edX3_obey_0.2.2.2.2.2.2.1
def dX3_obey_13 := edX3_obey_0.2.2.2.2.2.2.2.1
def dX3_obey_14 := edX3_obey_0.2.2.2.2.2.2.2.2.1
def dX3_obey_15 := edX3_obey_0.2.2.2.2.2.2.2.2.2.1
def dX3_obey_18 := edX3_obey_0.2.2.2.2.2.2.2.2.2.2.1
def dX3_obey_19 := edX3_obey_0.2.2.2.2.2.2.2.2.2.2.2.1
def dX3_obey_22 := edX3_obey_0.2.2.2.2.2.2.2.2.2.2.2.2.1
def dX3_obey_25 := edX3_obey_0.2.2.2.2.2.2.2.2.2.2.2.2.2.1
def dX3_obey_27 := edX3_obey_0.2.2.2.2.2.2.2.2.2.2.2.2.2.2.1
def dX3_obey_29 := edX3_obey_0.2.2.2.2.2.2.2.2.2.2.2.2.2.2.2
theorem edX3_obey_32 : (decode cX3_obey 32 = .ok (.aload 4, 2)) ∧ (decode cX3_obey 34 = .ok (.aload_n 0, 1)) ∧ (decode cX3_obey 35 = .ok (.getfield 15, 3)) ∧ (decode cX3_obey 38 = .ok (.iload_n 3, 1)) ∧ (decode cX3_obey 39 = .ok (.invokestatic 37, 3)) ∧ (decode cX3_obey 42 = .ok (.aload_n 2, 1)) ∧ (decode cX3_obey 43 = .ok (.getfield 47, 3)) ∧ (decode cX3_obey 46 = .ok (.aload 4, 2)) ∧ (decode cX3_obey 48 = .ok (.getfield 50, 3)) ∧ (decode cX3_obey 51 = .ok (.invokestatic 37, 3)) ∧ (decode cX3_obey 54 = .ok (.invokevirtual 55, 3)) ∧ (decode cX3_obey 57 = .ok (.ifCond .ne 4, 3)) ∧ (decode cX3_obey 60 = .ok (.return_, 1)) ∧ (decode cX3_obey 61 = .ok (.aload_n 2, 1)) ∧ (decode cX3_obey 62 = .ok (.getfield 59, 3)) ∧ (decode cX3_obey 65 = .ok (.aload_n 0, 1)) := by decide +kernel
def dX3_obey_32 := edX3_obey_32.1
def dX3_obey_34 := edX3_obey_32.2.1
def dX3_obey_35 := edX3_obey_32.2.2.1
def dX3_obey_38 := edX3_obey_32.2.2.2.1
def dX3_obey_39 := edX3_obey_32.2.2.2.2.1
def dX3_obey_42 := edX3_obey_32.2.2.2.2.2.1
def dX3_obey_43 := edX3_obey_32.2.2.2.2.2.2.1
def dX3_obey_46 := edX3_obey_32.2.2.2.2.2.2.2.1
def dX3_obey_48 := edX3_obey_32.2.2.2.2.2.2.2.2.1
def dX3_obey_51 := edX3_obey_32.2.2.2.2.2.2.2.2.2.1
def dX3_obey_54 := edX3_obey_32.2.2.2.2.2.2.2.2.2.2.1
def dX3_obey_57 := edX3_obey_32.2.2.2.2.2.2.2.2.2.2.2.1
def dX3_obey_60 := edX3_obey_32.2.2.2.2.2.2.2.2.2.2.2.2.1
def dX3_obey_61 := edX3_obey_32.2.2.2.2.2.2.2.2.2.2.2.2.2.1
def dX3_obey_62 := edX3_obey_32.2.2.2.2.2.2.2.2.2.2.2.2.2.2.1
def dX3_obey_65 := edX3_obey_32.2.2.2.2.2.2.2.2.2.2.2.2.2.2.2
theorem edX3_obey_66 : (decode cX3_obey 66 = .ok (.getfield 18, 3)) ∧ (decode cX3_obey 69 = .ok (.iload_n 3, 1)) ∧ (decode cX3_obey 70 = .ok (.invokestatic 37, 3)) ∧ (decode cX3_obey 73 = .ok (.aload_n 0, 1)) ∧ (decode cX3_obey 74 = .ok (.getfield 21, 3)) ∧ (decode cX3_obey 77 = .ok (.iload_n 3, 1)) ∧ (decode cX3_obey 78 = .ok (.invokestatic 37, 3)) ∧ (decode cX3_obey 81 = .ok (.invokestatic 28, 3)) ∧ (decode cX3_obey 84 = .ok (.aload_n 2, 1)) ∧ (decode cX3_obey 85 = .ok (.iload_n 3, 1)) ∧ (decode cX3_obey 86 = .ok (.iconst 1, 1)) ∧ (decode cX3_obey 87 = .ok (.iadd, 1)) ∧ (decode cX3_obey 88 = .ok (.putfield 32, 3)) ∧ (decode cX3_obey 91 = .ok (.iinc 3 1, 3)) ∧ (decode cX3_obey 94 = .ok (.goto (-89), 3)) ∧ (decode cX3_obey 97 = .ok (.return_, 1)) := by decide +kernel
def dX3_obey_66 := edX3_obey_66.1
def dX3_obey_69 := edX3_obey_66.2.1
def dX3_obey_70 := edX3_obey_66.2.2.1
def dX3_obey_73 := edX3_obey_66.2.2.2.1
def dX3_obey_74 := edX3_obey_66.2.2.2.2.1
def dX3_obey_77 := edX3_obey_66.2.2.2.2.2.1
def dX3_obey_78 := edX3_obey_66.2.2.2.2.2.2.1
def dX3_obey_81 := edX3_obey_66.2.2.2.2.2.2.2.1
def dX3_obey_84 := edX3_obey_66.2.2.2.2.2.2.2.2.1
def dX3_obey_85 := edX3_obey_66.2.2.2.2.2.2.2.2.2.1
def dX3_obey_86 := edX3_obey_66.2.2.2.2.2.2.2.2.2.2.1
def dX3_obey_87 := edX3_obey_66.2.2.2.2.2.2.2.2.2.2.2.1
def dX3_obey_88 := edX3_obey_66.2.2.2.2.2.2.2.2.2.2.2.2.1
def dX3_obey_91 := edX3_obey_66.2.2.2.2.2.2.2.2.2.2.2.2.2.1
def dX3_obey_94 := edX3_obey_66.2.2.2.2.2.2.2.2.2.2.2.2.2.2.1
def dX3_obey_97 := edX3_obey_66.2.2.2.2.2.2.2.2.2.2.2.2.2.2.2
theorem edX4_init_0 : (decode cX4_init 0 = .ok (.aload_n 0, 1)) ∧ (decode cX4_init 1 = .ok (.invokespecial 3, 3)) ∧ (decode cX4_init 4 = .ok (.aload_n 0, 1)) ∧ (decode cX4_init 5 = .ok (.bipush 100, 2)) ∧ (decode cX4_init 7 = .ok (.putfield 9, 3)) ∧ (decode cX4_init 10 = .ok (.aload_n 0, 1)) ∧ (decode cX4_init 11 = .ok (.bipush 6, 2)) ∧ (decode cX4_init 13 = .ok (.anewarray 15, 3)) ∧ (decode cX4_init 16 = .ok (.putfield 17, 3)) ∧ (decode cX4_init 19 = .ok (.aload_n 0, 1)) ∧ (decode cX4_init 20 = .ok (.bipush 6, 2)) ∧ (decode cX4_init 22 = .ok (.newarray .int, 2)) ∧ (decode cX4_init 24 = .ok (.putfield 21, 3)) ∧ (decode cX4_init 27 = .ok (.return_, 1)) := by decide +kernel
def dX4_init_0 := edX4_init_0.1
def dX4_init_1 := edX4_init_0.2.1
def dX4_init_4 := edX4_init_0.2.2.1
def dX4_init_5 := edX4_init_0.2.2.2.1
def dX4_init_7 := edX4_init_0.2.2.2.2.1
def dX4_init_10 := edX4_init_0.2.2.2.2.2.1
def dX4_init_11 := edX4_init_0.2.2.2.2.2.2.1
def dX4_init_13 := edX4_init_0.2.2.2.2.2.2.2.1
def dX4_init_16 := edX4_init_0.2.2.2.2.2.2.2.2.1
def dX4_init_19 := edX4_init_0.2.2.2.2.2.2.2.2.2.1
def dX4_init_20 := edX4_init_0.2.2.2.2.2.2.2.2.2.2.1
def dX4_init_22 := edX4_init_0.2.2.2.2.2.2.2.2.2.2.2.1
def dX4_init_24 := edX4_init_0.2.2.2.2.2.2.2.2.2.2.2.2.1
def dX4_init_27 := edX4_init_0.2.2.2.2.2.2.2.2.2.2.2.2.2
theorem edX4_at_0 : (decode cX4_at 0 = .ok (.iload_n 1, 1)) ∧ (decode cX4_at 1 = .ok (.ifCond .lt 29, 3)) ∧ (decode cX4_at 4 = .ok (.iload_n 1, 1)) ∧ (decode cX4_at 5 = .ok (.aload_n 0, 1)) ∧ (decode cX4_at 6 = .ok (.getfield 25, 3)) ∧ (decode cX4_at 9 = .ok (.if_icmp .ge 21, 3)) ∧ (decode cX4_at 12 = .ok (.iload_n 1, 1)) ∧ (decode cX4_at 13 = .ok (.aload_n 0, 1)) ∧ (decode cX4_at 14 = .ok (.getfield 17, 3)) ∧ (decode cX4_at 17 = .ok (.arraylength, 1)) ∧ (decode cX4_at 18 = .ok (.if_icmp .ge 12, 3)) ∧ (decode cX4_at 21 = .ok (.aload_n 0, 1)) ∧ (decode cX4_at 22 = .ok (.getfield 17, 3)) ∧ (decode cX4_at 25 = .ok (.iload_n 1, 1)) ∧ (decode cX4_at 26 = .ok (.aaload, 1)) ∧ (decode cX4_at 27 = .ok (.goto 4, 3)) := by decide +kernel
def dX4_at_0 := edX4_at_0.1
def dX4_at_1 := edX4_at_0.2.1
def dX4_at_4 := edX4_at_0.2.2.1
def dX4_at_5 := edX4_at_0.2.2.2.1
def dX4_at_6 := edX4_at_0.2.2.2.2.1
def dX4_at_9 := edX4_at_0.2.2.2.2.2.1
def dX4_at_12 := edX4_at_0.2.2.2.2.2.2.1
def dX4_at_13 := edX4_at_0.2.2.2.2.2.2.2.1
def dX4_at_14 := edX4_at_0.2.2.2.2.2.2.2.2.1
def dX4_at_17 := edX4_at_0.2.2.2.2.2.2.2.2.2.1
def dX4_at_18 := edX4_at_0.2.2.2.2.2.2.2.2.2.2.1
def dX4_at_21 := edX4_at_0.2.2.2.2.2.2.2.2.2.2.2.1
def dX4_at_22 := edX4_at_0.2.2.2.2.2.2.2.2.2.2.2.2.1
def dX4_at_25 := edX4_at_0.2.2.2.2.2.2.2.2.2.2.2.2.2.1
def dX4_at_26 := edX4_at_0.2.2.2.2.2.2.2.2.2.2.2.2.2.2.1
def dX4_at_27 := edX4_at_0.2.2.2.2.2.2.2.2.2.2.2.2.2.2.2
theorem edX4_at_30 : (decode cX4_at 30 = .ok (.aconst_null, 1)) ∧ (decode cX4_at 31 = .ok (.areturn, 1)) := by decide +kernel
def dX4_at_30 := edX4_at_30.1
def dX4_at_31 := edX4_at_30.2
set_option maxRecDepth 100000 in
theorem ggX4_add_X0_init : GoodIn wsX4_add wsX0_init := goodIn_ca (b := wsX100) (goodIn_ca (b := wsX20) (goodIn_ca (b := wsX00) (goodIn_s _ [15, 16, 18, 19, 20, 21, 22, 23, 24] [14, 17] (by decide +kernel) rfl (by decide +kernel)) (goodIn_sub (fun w h => List.mem_cons_of_mem _ (List.mem_append_left _ (List.mem_append_left _ (List.mem_append_right _ h)))) gs_wsX00)) (goodIn_sub (fun w h => List.mem_cons_of_mem _ (List.mem_append_left _ (List.mem_append_right _ h))) gs_wsX20)) (goodIn_sub (fun w h => List.mem_cons_of_mem _ (List.mem_append_right _ h)) gs_wsX100)
set_option maxRecDepth 20000 in
theorem gX4_add_X0_init : GoodIn wsX4_add (wsX0_init) := ggX4_add_X0_init
set_option maxRecDepth 100000 in
theorem ggX4_add_X2_init : GoodIn wsX4_add wsX2_init := goodIn_ca (b := wsX100) (goodIn_ca (b := wsX20) (goodIn_ca (b := wsX00) (goodIn_s _ [28, 13, 5, 15, 16, 18, 19, 20, 21, 22, 23, 24] [27, 14, 17] (by decide +kernel) rfl (by decide +kernel)) (goodIn_sub (fun w h => List.mem_cons_of_mem _ (List.mem_append_left _ (List.mem_append_left _ (List.mem_append_right _ h)))) gs_wsX00)) (goodIn_sub (fun w h => List.mem_cons_of_mem _ (List.mem_append_left _ (List.mem_append_right _ h))) gs_wsX20)) (goodIn_sub (fun w h => List.mem_cons_of_mem _ (List.mem_append_right _ h)) gs_wsX100)
set_option maxRecDepth 20000 in
theorem gX4_add_X2_init : GoodIn wsX4_add (wsX2_init) := ggX4_add_X2_init
set_option maxRecDepth 100000 in
theorem ggX4_add_X10_init : GoodIn wsX4_add wsX10_init := goodIn_ca (b := wsX100) (goodIn_ca (b := wsX20) (goodIn_ca (b := wsX00) (goodIn_s _ [32, 26, 8, 28, 13, 5, 15, 16, 18, 19, 20, 21, 22, 23, 24] [31, 27, 14, 17] (by decide +kernel) rfl (by decide +kernel)) (goodIn_sub (fun w h => List.mem_cons_of_mem _ (List.mem_append_left _ (List.mem_append_left _ (List.mem_append_right _ h)))) gs_wsX00)) (goodIn_sub (fun w h => List.mem_cons_of_mem _ (List.mem_append_left _ (List.mem_append_right _ h))) gs_wsX20)) (goodIn_sub (fun w h => List.mem_cons_of_mem _ (List.mem_append_right _ h)) gs_wsX100)
set_option maxRecDepth 20000 in
theorem gX4_add_X10_init : GoodIn wsX4_add (wsX10_init) := ggX4_add_X10_init
theorem edX4_add_0 : (decode cX4_add 0 = .ok (.aload_n 0, 1)) ∧ (decode cX4_add 1 = .ok (.getfield 25, 3)) ∧ (decode cX4_add 4 = .ok (.ifCond .lt 15, 3)) ∧ (decode cX4_add 7 = .ok (.aload_n 0, 1)) ∧ (decode cX4_add 8 = .ok (.getfield 25, 3)) ∧ (decode cX4_add 11 = .ok (.aload_n 0, 1)) ∧ (decode cX4_add 12 = .ok (.getfield 17, 3)) ∧ (decode cX4_add 15 = .ok (.arraylength, 1)) ∧ (decode cX4_add 16 = .ok (.if_icmp .lt 5, 3)) ∧ (decode cX4_add 19 = .ok (.iconst 0, 1)) ∧ (decode cX4_add 20 = .ok (.ireturn, 1)) ∧ (decode cX4_add 21 = .ok (.iload_n 1, 1)) ∧ (decode cX4_add 22 = .ok (.ifCond .ne 28, 3)) ∧ (decode cX4_add 25 = .ok (.aload_n 0, 1)) ∧ (decode cX4_add 26 = .ok (.getfield 17, 3)) ∧ (decode cX4_add 29 = .ok (.aload_n 0, 1)) := by decide +kernel
def dX4_add_0 := edX4_add_0.1
def dX4_add_1 := edX4_add_0.2.1
def dX4_add_4 := edX4_add_0.2.2.1
def dX4_add_7 := edX4_add_0.2.2.2.1
def dX4_add_8 := edX4_add_0.2.2.2.2.1
def dX4_add_11 := edX4_add_0.2.2.2.2.2.1
def dX4_add_12 := edX4_add_0.2.2.2.2.2.2.1
def dX4_add_15 := edX4_add_0.2.2.2.2.2.2.2.1
def dX4_add_16 := edX4_add_0.2.2.2.2.2.2.2.2.1
def dX4_add_19 := edX4_add_0.2.2.2.2.2.2.2.2.2.1
def dX4_add_20 := edX4_add_0.2.2.2.2.2.2.2.2.2.2.1
def dX4_add_21 := edX4_add_0.2.2.2.2.2.2.2.2.2.2.2.1
def dX4_add_22 := edX4_add_0.2.2.2.2.2.2.2.2.2.2.2.2.1
def dX4_add_25 := edX4_add_0.2.2.2.2.2.2.2.2.2.2.2.2.2.1
def dX4_add_26 := edX4_add_0.2.2.2.2.2.2.2.2.2.2.2.2.2.2.1
def dX4_add_29 := edX4_add_0.2.2.2.2.2.2.2.2.2.2.2.2.2.2.2
theorem edX4_add_30 : (decode cX4_add 30 = .ok (.getfield 25, 3)) ∧ (decode cX4_add 33 = .ok (.new 15, 3)) ∧ (decode cX4_add 36 = .ok (.dup, 1)) ∧ (decode cX4_add 37 = .ok (.aload_n 0, 1)) ∧ (decode cX4_add 38 = .ok (.getfield 25, 3)) ∧ (decode cX4_add 41 = .ok (.iload_n 2, 1)) ∧ (decode cX4_add 42 = .ok (.iload_n 3, 1)) ∧ (decode cX4_add 43 = .ok (.invokespecial 28, 3)) ∧ (decode cX4_add 46 = .ok (.aastore, 1)) ∧ (decode cX4_add 47 = .ok (.goto 55, 3)) ∧ (decode cX4_add 50 = .ok (.iload_n 1, 1)) ∧ (decode cX4_add 51 = .ok (.iconst 1, 1)) ∧ (decode cX4_add 52 = .ok (.if_icmp .ne 28, 3)) ∧ (decode cX4_add 55 = .ok (.aload_n 0, 1)) ∧ (decode cX4_add 56 = .ok (.getfield 17, 3)) ∧ (decode cX4_add 59 = .ok (.aload_n 0, 1)) := by decide +kernel
def dX4_add_30 := edX4_add_30.1
def dX4_add_33 := edX4_add_30.2.1
def dX4_add_36 := edX4_add_30.2.2.1
def dX4_add_37 := edX4_add_30.2.2.2.1
def dX4_add_38 := edX4_add_30.2.2.2.2.1
def dX4_add_41 := edX4_add_30.2.2.2.2.2.1
def dX4_add_42 := edX4_add_30.2.2.2.2.2.2.1
def dX4_add_43 := edX4_add_30.2.2.2.2.2.2.2.1
def dX4_add_46 := edX4_add_30.2.2.2.2.2.2.2.2.1
def dX4_add_47 := edX4_add_30.2.2.2.2.2.2.2.2.2.1
def dX4_add_50 := edX4_add_30.2.2.2.2.2.2.2.2.2.2.1
def dX4_add_51 := edX4_add_30.2.2.2.2.2.2.2.2.2.2.2.1
def dX4_add_52 := edX4_add_30.2.2.2.2.2.2.2.2.2.2.2.2.1
def dX4_add_55 := edX4_add_30.2.2.2.2.2.2.2.2.2.2.2.2.2.1
def dX4_add_56 := edX4_add_30.2.2.2.2.2.2.2.2.2.2.2.2.2.2.1
def dX4_add_59 := edX4_add_30.2.2.2.2.2.2.2.2.2.2.2.2.2.2.2
theorem edX4_add_60 : (decode cX4_add 60 = .ok (.getfield 25, 3)) ∧ (decode cX4_add 63 = .ok (.new 31, 3)) ∧ (decode cX4_add 66 = .ok (.dup, 1)) ∧ (decode cX4_add 67 = .ok (.aload_n 0, 1)) ∧ (decode cX4_add 68 = .ok (.getfield 25, 3)) ∧ (decode cX4_add 71 = .ok (.iload_n 2, 1)) ∧ (decode cX4_add 72 = .ok (.iload_n 3, 1)) ∧ (decode cX4_add 73 = .ok (.invokespecial 33, 3)) ∧ (decode cX4_add 76 = .ok (.aastore, 1)) ∧ (decode cX4_add 77 = .ok (.goto 25, 3)) ∧ (decode cX4_add 80 = .ok (.aload_n 0, 1)) ∧ (decode cX4_add 81 = .ok (.getfield 17, 3)) ∧ (decode cX4_add 84 = .ok (.aload_n 0, 1)) ∧ (decode cX4_add 85 = .ok (.getfield 25, 3)) ∧ (decode cX4_add 88 = .ok (.new 34, 3)) ∧ (decode cX4_add 91 = .ok (.dup, 1)) := by decide +kernel
def dX4_add_60 := edX4_add_60.1
def dX4_add_63 := edX4_add_60.2.1
def dX4_add_66 := edX4_add_60.2.2.1
def dX4_add_67 := edX4_add_60.2.2.2.1
def dX4_add_68 := edX4_add_60.2.2.2.2.1
def dX4_add_71 := edX4_add_60.2.2.2.2.2.1
def dX4_add_72 := edX4_add_60.2.2.2.2.2.2.1
def dX4_add_73 := edX4_add_60.2.2.2.2.2.2.2.1
def dX4_add_76 := edX4_add_60.2.2.2.2.2.2.2.2.1
def dX4_add_77 := edX4_add_60.2.2.2.2.2.2.2.2.2.1
def dX4_add_80 := edX4_add_60.2.2.2.2.2.2.2.2.2.2.1
def dX4_add_81 := edX4_add_60.2.2.2.2.2.2.2.2.2.2.2.1
def dX4_add_84 := edX4_add_60.2.2.2.2.2.2.2.2.2.2.2.2.1
def dX4_add_85 := edX4_add_60.2.2.2.2.2.2.2.2.2.2.2.2.2.1
def dX4_add_88 := edX4_add_60.2.2.2.2.2.2.2.2.2.2.2.2.2.2.1
def dX4_add_91 := edX4_add_60.2.2.2.2.2.2.2.2.2.2.2.2.2.2.2
theorem edX4_add_92 : (decode cX4_add 92 = .ok (.aload_n 0, 1)) ∧ (decode cX4_add 93 = .ok (.getfield 25, 3)) ∧ (decode cX4_add 96 = .ok (.iload_n 2, 1)) ∧ (decode cX4_add 97 = .ok (.iload_n 3, 1)) ∧ (decode cX4_add 98 = .ok (.invokespecial 36, 3)) ∧ (decode cX4_add 101 = .ok (.aastore, 1)) ∧ (decode cX4_add 102 = .ok (.aload_n 0, 1)) ∧ (decode cX4_add 103 = .ok (.dup, 1)) ∧ (decode cX4_add 104 = .ok (.getfield 25, 3)) ∧ (decode cX4_add 107 = .ok (.iconst 1, 1)) ∧ (decode cX4_add 108 = .ok (.iadd, 1)) ∧ (decode cX4_add 109 = .ok (.putfield 25, 3)) ∧ (decode cX4_add 112 = .ok (.iconst 1, 1)) ∧ (decode cX4_add 113 = .ok (.ireturn, 1)) := by decide +kernel
def dX4_add_92 := edX4_add_92.1
def dX4_add_93 := edX4_add_92.2.1
def dX4_add_96 := edX4_add_92.2.2.1
def dX4_add_97 := edX4_add_92.2.2.2.1
def dX4_add_98 := edX4_add_92.2.2.2.2.1
def dX4_add_101 := edX4_add_92.2.2.2.2.2.1
def dX4_add_102 := edX4_add_92.2.2.2.2.2.2.1
def dX4_add_103 := edX4_add_92.2.2.2.2.2.2.2.1
def dX4_add_104 := edX4_add_92.2.2.2.2.2.2.2.2.1
def dX4_add_107 := edX4_add_92.2.2.2.2.2.2.2.2.2.1
def dX4_add_108 := edX4_add_92.2.2.2.2.2.2.2.2.2.2.1
def dX4_add_109 := edX4_add_92.2.2.2.2.2.2.2.2.2.2.2.1
def dX4_add_112 := edX4_add_92.2.2.2.2.2.2.2.2.2.2.2.2.1
def dX4_add_113 := edX4_add_92.2.2.2.2.2.2.2.2.2.2.2.2.2
set_option maxRecDepth 100000 in
theorem ggX4_isHeld_X4_at : GoodIn wsX4_isHeld wsX4_at := goodIn_ca (b := wsX40) (goodIn_s _ [7, 8] [6] (by decide +kernel) rfl (by decide +kernel)) (goodIn_sub (fun w h => List.mem_cons_of_mem _ (List.mem_append_right _ h)) gs_wsX40)
set_option maxRecDepth 20000 in
theorem gX4_isHeld_X4_at : GoodIn wsX4_isHeld (wsV RX4 37 RX4 yX4_at wsX4_at) := goodIn_app (goodIn_of _ (by decide +kernel)) ggX4_isHeld_X4_at
theorem edX4_isHeld_0 : (decode cX4_isHeld 0 = .ok (.aload_n 0, 1)) ∧ (decode cX4_isHeld 1 = .ok (.iload_n 1, 1)) ∧ (decode cX4_isHeld 2 = .ok (.invokevirtual 37, 3)) ∧ (decode cX4_isHeld 5 = .ok (.instanceof 31, 3)) ∧ (decode cX4_isHeld 8 = .ok (.ireturn, 1)) := by decide +kernel
def dX4_isHeld_0 := edX4_isHeld_0.1
def dX4_isHeld_1 := edX4_isHeld_0.2.1
def dX4_isHeld_2 := edX4_isHeld_0.2.2.1
def dX4_isHeld_5 := edX4_isHeld_0.2.2.2.1
def dX4_isHeld_8 := edX4_isHeld_0.2.2.2.2
set_option maxRecDepth 100000 in
theorem ggX4_howManyAt_X4_at : GoodIn wsX4_howManyAt wsX4_at := goodIn_ca (b := wsX40) (goodIn_s _ [1, 8] [7] (by decide +kernel) rfl (by decide +kernel)) (goodIn_sub (fun w h => List.mem_cons_of_mem _ (List.mem_append_left _ (List.mem_append_left _ (List.mem_append_left _ (List.mem_append_left _ (List.mem_append_right _ h)))))) gs_wsX40)
set_option maxRecDepth 20000 in
theorem gX4_howManyAt_X4_at : GoodIn wsX4_howManyAt (wsV RX4 37 RX4 yX4_at wsX4_at) := goodIn_app (goodIn_of _ (by decide +kernel)) ggX4_howManyAt_X4_at
set_option maxRecDepth 100000 in
theorem ggX4_howManyAt_X11_get : GoodIn wsX4_howManyAt wsX11_get := goodIn_s _ [] [11] (by decide +kernel) rfl (by decide +kernel)
set_option maxRecDepth 20000 in
theorem gX4_howManyAt_X11_get_n46 : GoodIn wsX4_howManyAt (wsX11_get) := ggX4_howManyAt_X11_get
set_option maxRecDepth 100000 in
theorem ggX4_howManyAt_X0_isAt : GoodIn wsX4_howManyAt wsX0_isAt := goodIn_ca (b := wsX100) (goodIn_ca (b := wsX20) (goodIn_ca (b := wsX00) (goodIn_s _ [17, 18, 19, 15, 21, 22, 23, 24, 25, 26] [16, 20] (by decide +kernel) rfl (by decide +kernel)) (goodIn_sub (fun w h => List.mem_cons_of_mem _ (List.mem_append_left _ (List.mem_append_left _ (List.mem_append_right _ h)))) gs_wsX00)) (goodIn_sub (fun w h => List.mem_cons_of_mem _ (List.mem_append_left _ (List.mem_append_right _ h))) gs_wsX20)) (goodIn_sub (fun w h => List.mem_cons_of_mem _ (List.mem_append_right _ h)) gs_wsX100)
set_option maxRecDepth 20000 in
theorem gX4_howManyAt_X0_isAt : GoodIn wsX4_howManyAt (wsV RX4 50 RX0 yX0_isAt wsX0_isAt) := goodIn_app (goodIn_of _ (by decide +kernel)) ggX4_howManyAt_X0_isAt
set_option maxRecDepth 20000 in
theorem gX4_howManyAt_X0_isAt_u50X2 : GoodIn wsX4_howManyAt (va_wsU RX4 50 RX2 "OilPush$Cylinder" ⟨"OilPush$Cylinder", "isAt", "(II)Z"⟩ yX0_isAt wsX0_isAt) := goodIn_app (goodIn_of _ (by decide +kernel)) ggX4_howManyAt_X0_isAt
set_option maxRecDepth 20000 in
theorem gX4_howManyAt_X0_isAt_u50X10 : GoodIn wsX4_howManyAt (va_wsU RX4 50 RX10 "OilPush$Cylinder" ⟨"OilPush$Cylinder", "isAt", "(II)Z"⟩ yX0_isAt wsX0_isAt) := goodIn_app (goodIn_of _ (by decide +kernel)) ggX4_howManyAt_X0_isAt
theorem edX4_howManyAt_0 : (decode cX4_howManyAt 0 = .ok (.iconst 0, 1)) ∧ (decode cX4_howManyAt 1 = .ok (.istore_n 3, 1)) ∧ (decode cX4_howManyAt 2 = .ok (.iconst 0, 1)) ∧ (decode cX4_howManyAt 3 = .ok (.istore 4, 2)) ∧ (decode cX4_howManyAt 5 = .ok (.iload 4, 2)) ∧ (decode cX4_howManyAt 7 = .ok (.aload_n 0, 1)) ∧ (decode cX4_howManyAt 8 = .ok (.getfield 25, 3)) ∧ (decode cX4_howManyAt 11 = .ok (.if_icmp .ge 43, 3)) ∧ (decode cX4_howManyAt 14 = .ok (.aload_n 0, 1)) ∧ (decode cX4_howManyAt 15 = .ok (.iload 4, 2)) ∧ (decode cX4_howManyAt 17 = .ok (.invokevirtual 37, 3)) ∧ (decode cX4_howManyAt 20 = .ok (.astore 5, 2)) ∧ (decode cX4_howManyAt 22 = .ok (.aload 5, 2)) ∧ (decode cX4_howManyAt 24 = .ok (.ifnull 24, 3)) ∧ (decode cX4_howManyAt 27 = .ok (.aload 5, 2)) ∧ (decode cX4_howManyAt 29 = .ok (.iload_n 1, 1)) := by decide +kernel
def dX4_howManyAt_0 := edX4_howManyAt_0.1
def dX4_howManyAt_1 := edX4_howManyAt_0.2.1
def dX4_howManyAt_2 := edX4_howManyAt_0.2.2.1
def dX4_howManyAt_3 := edX4_howManyAt_0.2.2.2.1
def dX4_howManyAt_5 := edX4_howManyAt_0.2.2.2.2.1
def dX4_howManyAt_7 := edX4_howManyAt_0.2.2.2.2.2.1
def dX4_howManyAt_8 := edX4_howManyAt_0.2.2.2.2.2.2.1
def dX4_howManyAt_11 := edX4_howManyAt_0.2.2.2.2.2.2.2.1
def dX4_howManyAt_14 := edX4_howManyAt_0.2.2.2.2.2.2.2.2.1
def dX4_howManyAt_15 := edX4_howManyAt_0.2.2.2.2.2.2.2.2.2.1
def dX4_howManyAt_17 := edX4_howManyAt_0.2.2.2.2.2.2.2.2.2.2.1
def dX4_howManyAt_20 := edX4_howManyAt_0.2.2.2.2.2.2.2.2.2.2.2.1
def dX4_howManyAt_22 := edX4_howManyAt_0.2.2.2.2.2.2.2.2.2.2.2.2.1
def dX4_howManyAt_24 := edX4_howManyAt_0.2.2.2.2.2.2.2.2.2.2.2.2.2.1
def dX4_howManyAt_27 := edX4_howManyAt_0.2.2.2.2.2.2.2.2.2.2.2.2.2.2.1
def dX4_howManyAt_29 := edX4_howManyAt_0.2.2.2.2.2.2.2.2.2.2.2.2.2.2.2
theorem edX4_howManyAt_30 : (decode cX4_howManyAt 30 = .ok (.aload_n 2, 1)) ∧ (decode cX4_howManyAt 31 = .ok (.getfield 41, 3)) ∧ (decode cX4_howManyAt 34 = .ok (.iload 4, 2)) ∧ (decode cX4_howManyAt 36 = .ok (.invokestatic 46, 3)) ∧ (decode cX4_howManyAt 39 = .ok (.invokevirtual 50, 3)) ∧ (decode cX4_howManyAt 42 = .ok (.ifCond .eq 6, 3)) ∧ (decode cX4_howManyAt 45 = .ok (.iinc 3 1, 3)) ∧ (decode cX4_howManyAt 48 = .ok (.iinc 4 1, 3)) ∧ (decode cX4_howManyAt 51 = .ok (.goto (-46), 3)) ∧ (decode cX4_howManyAt 54 = .ok (.iload_n 3, 1)) ∧ (decode cX4_howManyAt 55 = .ok (.ireturn, 1)) := by decide +kernel
def dX4_howManyAt_30 := edX4_howManyAt_30.1
def dX4_howManyAt_31 := edX4_howManyAt_30.2.1
def dX4_howManyAt_34 := edX4_howManyAt_30.2.2.1
def dX4_howManyAt_36 := edX4_howManyAt_30.2.2.2.1
def dX4_howManyAt_39 := edX4_howManyAt_30.2.2.2.2.1
def dX4_howManyAt_42 := edX4_howManyAt_30.2.2.2.2.2.1
def dX4_howManyAt_45 := edX4_howManyAt_30.2.2.2.2.2.2.1
def dX4_howManyAt_48 := edX4_howManyAt_30.2.2.2.2.2.2.2.1
def dX4_howManyAt_51 := edX4_howManyAt_30.2.2.2.2.2.2.2.2.1
def dX4_howManyAt_54 := edX4_howManyAt_30.2.2.2.2.2.2.2.2.2.1
def dX4_howManyAt_55 := edX4_howManyAt_30.2.2.2.2.2.2.2.2.2.2
theorem edX5_init_0 : (decode cX5_init 0 = .ok (.aload_n 0, 1)) ∧ (decode cX5_init 1 = .ok (.invokespecial 3, 3)) ∧ (decode cX5_init 4 = .ok (.aload_n 0, 1)) ∧ (decode cX5_init 5 = .ok (.bipush 20, 2)) ∧ (decode cX5_init 7 = .ok (.newarray .int, 2)) ∧ (decode cX5_init 9 = .ok (.putfield 9, 3)) ∧ (decode cX5_init 12 = .ok (.aload_n 0, 1)) ∧ (decode cX5_init 13 = .ok (.bipush 20, 2)) ∧ (decode cX5_init 15 = .ok (.newarray .int, 2)) ∧ (decode cX5_init 17 = .ok (.putfield 15, 3)) ∧ (decode cX5_init 20 = .ok (.aload_n 0, 1)) ∧ (decode cX5_init 21 = .ok (.bipush 20, 2)) ∧ (decode cX5_init 23 = .ok (.newarray .int, 2)) ∧ (decode cX5_init 25 = .ok (.putfield 18, 3)) ∧ (decode cX5_init 28 = .ok (.return_, 1)) := by decide +kernel
def dX5_init_0 := edX5_init_0.1
def dX5_init_1 := edX5_init_0.2.1
def dX5_init_4 := edX5_init_0.2.2.1
def dX5_init_5 := edX5_init_0.2.2.2.1
def dX5_init_7 := edX5_init_0.2.2.2.2.1
def dX5_init_9 := edX5_init_0.2.2.2.2.2.1
def dX5_init_12 := edX5_init_0.2.2.2.2.2.2.1
def dX5_init_13 := edX5_init_0.2.2.2.2.2.2.2.1
def dX5_init_15 := edX5_init_0.2.2.2.2.2.2.2.2.1
def dX5_init_17 := edX5_init_0.2.2.2.2.2.2.2.2.2.1
def dX5_init_20 := edX5_init_0.2.2.2.2.2.2.2.2.2.2.1
def dX5_init_21 := edX5_init_0.2.2.2.2.2.2.2.2.2.2.2.1
def dX5_init_23 := edX5_init_0.2.2.2.2.2.2.2.2.2.2.2.2.1
def dX5_init_25 := edX5_init_0.2.2.2.2.2.2.2.2.2.2.2.2.2.1
def dX5_init_28 := edX5_init_0.2.2.2.2.2.2.2.2.2.2.2.2.2.2
set_option maxRecDepth 100000 in
theorem ggX5_add_X11_set : GoodIn wsX5_add wsX11_set := goodIn_s _ [] [7] (by decide +kernel) rfl (by decide +kernel)
set_option maxRecDepth 20000 in
theorem gX5_add_X11_set_n25 : GoodIn wsX5_add (wsX11_set) := ggX5_add_X11_set
theorem edX5_add_0 : (decode cX5_add 0 = .ok (.aload_n 0, 1)) ∧ (decode cX5_add 1 = .ok (.getfield 21, 3)) ∧ (decode cX5_add 4 = .ok (.bipush 20, 2)) ∧ (decode cX5_add 6 = .ok (.if_icmp .lt 5, 3)) ∧ (decode cX5_add 9 = .ok (.iconst 0, 1)) ∧ (decode cX5_add 10 = .ok (.ireturn, 1)) ∧ (decode cX5_add 11 = .ok (.aload_n 0, 1)) ∧ (decode cX5_add 12 = .ok (.getfield 9, 3)) ∧ (decode cX5_add 15 = .ok (.aload_n 0, 1)) ∧ (decode cX5_add 16 = .ok (.getfield 21, 3)) ∧ (decode cX5_add 19 = .ok (.iload_n 1, 1)) ∧ (decode cX5_add 20 = .ok (.invokestatic 25, 3)) ∧ (decode cX5_add 23 = .ok (.aload_n 0, 1)) ∧ (decode cX5_add 24 = .ok (.getfield 15, 3)) ∧ (decode cX5_add 27 = .ok (.aload_n 0, 1)) ∧ (decode cX5_add 28 = .ok (.getfield 21, 3)) := by decide +kernel
def dX5_add_0 := edX5_add_0.1
def dX5_add_1 := edX5_add_0.2.1
def dX5_add_4 := edX5_add_0.2.2.1
def dX5_add_6 := edX5_add_0.2.2.2.1
def dX5_add_9 := edX5_add_0.2.2.2.2.1
def dX5_add_10 := edX5_add_0.2.2.2.2.2.1
def dX5_add_11 := edX5_add_0.2.2.2.2.2.2.1
def dX5_add_12 := edX5_add_0.2.2.2.2.2.2.2.1
def dX5_add_15 := edX5_add_0.2.2.2.2.2.2.2.2.1
def dX5_add_16 := edX5_add_0.2.2.2.2.2.2.2.2.2.1
def dX5_add_19 := edX5_add_0.2.2.2.2.2.2.2.2.2.2.1
def dX5_add_20 := edX5_add_0.2.2.2.2.2.2.2.2.2.2.2.1
def dX5_add_23 := edX5_add_0.2.2.2.2.2.2.2.2.2.2.2.2.1
def dX5_add_24 := edX5_add_0.2.2.2.2.2.2.2.2.2.2.2.2.2.1
def dX5_add_27 := edX5_add_0.2.2.2.2.2.2.2.2.2.2.2.2.2.2.1
def dX5_add_28 := edX5_add_0.2.2.2.2.2.2.2.2.2.2.2.2.2.2.2
theorem edX5_add_31 : (decode cX5_add 31 = .ok (.iload_n 2, 1)) ∧ (decode cX5_add 32 = .ok (.invokestatic 25, 3)) ∧ (decode cX5_add 35 = .ok (.aload_n 0, 1)) ∧ (decode cX5_add 36 = .ok (.getfield 18, 3)) ∧ (decode cX5_add 39 = .ok (.aload_n 0, 1)) ∧ (decode cX5_add 40 = .ok (.getfield 21, 3)) ∧ (decode cX5_add 43 = .ok (.iload_n 3, 1)) ∧ (decode cX5_add 44 = .ok (.invokestatic 25, 3)) ∧ (decode cX5_add 47 = .ok (.aload_n 0, 1)) ∧ (decode cX5_add 48 = .ok (.dup, 1)) ∧ (decode cX5_add 49 = .ok (.getfield 21, 3)) ∧ (decode cX5_add 52 = .ok (.iconst 1, 1)) ∧ (decode cX5_add 53 = .ok (.iadd, 1)) ∧ (decode cX5_add 54 = .ok (.putfield 21, 3)) ∧ (decode cX5_add 57 = .ok (.iconst 1, 1)) ∧ (decode cX5_add 58 = .ok (.ireturn, 1)) := by decide +kernel
def dX5_add_31 := edX5_add_31.1
def dX5_add_32 := edX5_add_31.2.1
def dX5_add_35 := edX5_add_31.2.2.1
def dX5_add_36 := edX5_add_31.2.2.2.1
def dX5_add_39 := edX5_add_31.2.2.2.2.1
def dX5_add_40 := edX5_add_31.2.2.2.2.2.1
def dX5_add_43 := edX5_add_31.2.2.2.2.2.2.1
def dX5_add_44 := edX5_add_31.2.2.2.2.2.2.2.1
def dX5_add_47 := edX5_add_31.2.2.2.2.2.2.2.2.1
def dX5_add_48 := edX5_add_31.2.2.2.2.2.2.2.2.2.1
def dX5_add_49 := edX5_add_31.2.2.2.2.2.2.2.2.2.2.1
def dX5_add_52 := edX5_add_31.2.2.2.2.2.2.2.2.2.2.2.1
def dX5_add_53 := edX5_add_31.2.2.2.2.2.2.2.2.2.2.2.2.1
def dX5_add_54 := edX5_add_31.2.2.2.2.2.2.2.2.2.2.2.2.2.1
def dX5_add_57 := edX5_add_31.2.2.2.2.2.2.2.2.2.2.2.2.2.2.1
def dX5_add_58 := edX5_add_31.2.2.2.2.2.2.2.2.2.2.2.2.2.2.2
set_option maxRecDepth 100000 in
theorem ggX5_latest_X11_get : GoodIn wsX5_latest wsX11_get := goodIn_s _ [] [9] (by decide +kernel) rfl (by decide +kernel)
set_option maxRecDepth 20000 in
theorem gX5_latest_X11_get_n29 : GoodIn wsX5_latest (wsX11_get) := ggX5_latest_X11_get
theorem edX5_latest_0 : (decode cX5_latest 0 = .ok (.iconst 0, 1)) ∧ (decode cX5_latest 1 = .ok (.istore_n 1, 1)) ∧ (decode cX5_latest 2 = .ok (.iconst 0, 1)) ∧ (decode cX5_latest 3 = .ok (.istore_n 2, 1)) ∧ (decode cX5_latest 4 = .ok (.iload_n 2, 1)) ∧ (decode cX5_latest 5 = .ok (.aload_n 0, 1)) ∧ (decode cX5_latest 6 = .ok (.getfield 21, 3)) ∧ (decode cX5_latest 9 = .ok (.if_icmp .ge 22, 3)) ∧ (decode cX5_latest 12 = .ok (.iload_n 1, 1)) ∧ (decode cX5_latest 13 = .ok (.aload_n 0, 1)) ∧ (decode cX5_latest 14 = .ok (.getfield 9, 3)) ∧ (decode cX5_latest 17 = .ok (.iload_n 2, 1)) ∧ (decode cX5_latest 18 = .ok (.invokestatic 29, 3)) ∧ (decode cX5_latest 21 = .ok (.invokestatic 33, 3)) ∧ (decode cX5_latest 24 = .ok (.istore_n 1, 1)) ∧ (decode cX5_latest 25 = .ok (.iinc 2 1, 3)) := by decide +kernel
def dX5_latest_0 := edX5_latest_0.1
def dX5_latest_1 := edX5_latest_0.2.1
def dX5_latest_2 := edX5_latest_0.2.2.1
def dX5_latest_3 := edX5_latest_0.2.2.2.1
def dX5_latest_4 := edX5_latest_0.2.2.2.2.1
def dX5_latest_5 := edX5_latest_0.2.2.2.2.2.1
def dX5_latest_6 := edX5_latest_0.2.2.2.2.2.2.1
def dX5_latest_9 := edX5_latest_0.2.2.2.2.2.2.2.1
def dX5_latest_12 := edX5_latest_0.2.2.2.2.2.2.2.2.1
def dX5_latest_13 := edX5_latest_0.2.2.2.2.2.2.2.2.2.1
def dX5_latest_14 := edX5_latest_0.2.2.2.2.2.2.2.2.2.2.1
def dX5_latest_17 := edX5_latest_0.2.2.2.2.2.2.2.2.2.2.2.1
def dX5_latest_18 := edX5_latest_0.2.2.2.2.2.2.2.2.2.2.2.2.1
def dX5_latest_21 := edX5_latest_0.2.2.2.2.2.2.2.2.2.2.2.2.2.1
def dX5_latest_24 := edX5_latest_0.2.2.2.2.2.2.2.2.2.2.2.2.2.2.1
def dX5_latest_25 := edX5_latest_0.2.2.2.2.2.2.2.2.2.2.2.2.2.2.2
theorem edX5_latest_28 : (decode cX5_latest 28 = .ok (.goto (-24), 3)) ∧ (decode cX5_latest 31 = .ok (.iload_n 1, 1)) ∧ (decode cX5_latest 32 = .ok (.ireturn, 1)) := by decide +kernel
def dX5_latest_28 := edX5_latest_28.1
def dX5_latest_31 := edX5_latest_28.2.1
def dX5_latest_32 := edX5_latest_28.2.2
set_option maxRecDepth 100000 in
theorem ggX5_areToldAt_X11_get : GoodIn wsX5_areToldAt wsX11_get := goodIn_s _ [] [8] (by decide +kernel) rfl (by decide +kernel)
set_option maxRecDepth 20000 in
theorem gX5_areToldAt_X11_get_n29 : GoodIn wsX5_areToldAt (wsX11_get) := ggX5_areToldAt_X11_get
theorem edX5_areToldAt_0 : (decode cX5_areToldAt 0 = .ok (.iconst 0, 1)) ∧ (decode cX5_areToldAt 1 = .ok (.istore_n 3, 1)) ∧ (decode cX5_areToldAt 2 = .ok (.iload_n 3, 1)) ∧ (decode cX5_areToldAt 3 = .ok (.aload_n 0, 1)) ∧ (decode cX5_areToldAt 4 = .ok (.getfield 21, 3)) ∧ (decode cX5_areToldAt 7 = .ok (.if_icmp .ge 49, 3)) ∧ (decode cX5_areToldAt 10 = .ok (.aload_n 0, 1)) ∧ (decode cX5_areToldAt 11 = .ok (.getfield 9, 3)) ∧ (decode cX5_areToldAt 14 = .ok (.iload_n 3, 1)) ∧ (decode cX5_areToldAt 15 = .ok (.invokestatic 29, 3)) ∧ (decode cX5_areToldAt 18 = .ok (.iload_n 1, 1)) ∧ (decode cX5_areToldAt 19 = .ok (.if_icmp .ne 31, 3)) ∧ (decode cX5_areToldAt 22 = .ok (.aload_n 2, 1)) ∧ (decode cX5_areToldAt 23 = .ok (.getfield 39, 3)) ∧ (decode cX5_areToldAt 26 = .ok (.aload_n 0, 1)) ∧ (decode cX5_areToldAt 27 = .ok (.getfield 15, 3)) := by decide +kernel
def dX5_areToldAt_0 := edX5_areToldAt_0.1
def dX5_areToldAt_1 := edX5_areToldAt_0.2.1
def dX5_areToldAt_2 := edX5_areToldAt_0.2.2.1
def dX5_areToldAt_3 := edX5_areToldAt_0.2.2.2.1
def dX5_areToldAt_4 := edX5_areToldAt_0.2.2.2.2.1
def dX5_areToldAt_7 := edX5_areToldAt_0.2.2.2.2.2.1
def dX5_areToldAt_10 := edX5_areToldAt_0.2.2.2.2.2.2.1
def dX5_areToldAt_11 := edX5_areToldAt_0.2.2.2.2.2.2.2.1
def dX5_areToldAt_14 := edX5_areToldAt_0.2.2.2.2.2.2.2.2.1
def dX5_areToldAt_15 := edX5_areToldAt_0.2.2.2.2.2.2.2.2.2.1
def dX5_areToldAt_18 := edX5_areToldAt_0.2.2.2.2.2.2.2.2.2.2.1
def dX5_areToldAt_19 := edX5_areToldAt_0.2.2.2.2.2.2.2.2.2.2.2.1
def dX5_areToldAt_22 := edX5_areToldAt_0.2.2.2.2.2.2.2.2.2.2.2.2.1
def dX5_areToldAt_23 := edX5_areToldAt_0.2.2.2.2.2.2.2.2.2.2.2.2.2.1
def dX5_areToldAt_26 := edX5_areToldAt_0.2.2.2.2.2.2.2.2.2.2.2.2.2.2.1
def dX5_areToldAt_27 := edX5_areToldAt_0.2.2.2.2.2.2.2.2.2.2.2.2.2.2.2
theorem edX5_areToldAt_30 : (decode cX5_areToldAt 30 = .ok (.iload_n 3, 1)) ∧ (decode cX5_areToldAt 31 = .ok (.invokestatic 29, 3)) ∧ (decode cX5_areToldAt 34 = .ok (.invokestatic 29, 3)) ∧ (decode cX5_areToldAt 37 = .ok (.aload_n 0, 1)) ∧ (decode cX5_areToldAt 38 = .ok (.getfield 18, 3)) ∧ (decode cX5_areToldAt 41 = .ok (.iload_n 3, 1)) ∧ (decode cX5_areToldAt 42 = .ok (.invokestatic 29, 3)) ∧ (decode cX5_areToldAt 45 = .ok (.if_icmp .eq 5, 3)) ∧ (decode cX5_areToldAt 48 = .ok (.iconst 0, 1)) ∧ (decode cX5_areToldAt 49 = .ok (.ireturn, 1)) ∧ (decode cX5_areToldAt 50 = .ok (.iinc 3 1, 3)) ∧ (decode cX5_areToldAt 53 = .ok (.goto (-51), 3)) ∧ (decode cX5_areToldAt 56 = .ok (.iconst 1, 1)) ∧ (decode cX5_areToldAt 57 = .ok (.ireturn, 1)) := by decide +kernel
def dX5_areToldAt_30 := edX5_areToldAt_30.1
def dX5_areToldAt_31 := edX5_areToldAt_30.2.1
def dX5_areToldAt_34 := edX5_areToldAt_30.2.2.1
def dX5_areToldAt_37 := edX5_areToldAt_30.2.2.2.1
def dX5_areToldAt_38 := edX5_areToldAt_30.2.2.2.2.1
def dX5_areToldAt_41 := edX5_areToldAt_30.2.2.2.2.2.1
def dX5_areToldAt_42 := edX5_areToldAt_30.2.2.2.2.2.2.1
def dX5_areToldAt_45 := edX5_areToldAt_30.2.2.2.2.2.2.2.1
def dX5_areToldAt_48 := edX5_areToldAt_30.2.2.2.2.2.2.2.2.1
def dX5_areToldAt_49 := edX5_areToldAt_30.2.2.2.2.2.2.2.2.2.1
def dX5_areToldAt_50 := edX5_areToldAt_30.2.2.2.2.2.2.2.2.2.2.1
def dX5_areToldAt_53 := edX5_areToldAt_30.2.2.2.2.2.2.2.2.2.2.2.1
def dX5_areToldAt_56 := edX5_areToldAt_30.2.2.2.2.2.2.2.2.2.2.2.2.1
def dX5_areToldAt_57 := edX5_areToldAt_30.2.2.2.2.2.2.2.2.2.2.2.2.2
theorem edX6_init_0 : (decode cX6_init 0 = .ok (.aload_n 0, 1)) ∧ (decode cX6_init 1 = .ok (.invokespecial 3, 3)) ∧ (decode cX6_init 4 = .ok (.aload_n 0, 1)) ∧ (decode cX6_init 5 = .ok (.bipush 20, 2)) ∧ (decode cX6_init 7 = .ok (.newarray .int, 2)) ∧ (decode cX6_init 9 = .ok (.putfield 9, 3)) ∧ (decode cX6_init 12 = .ok (.return_, 1)) := by decide +kernel
def dX6_init_0 := edX6_init_0.1
def dX6_init_1 := edX6_init_0.2.1
def dX6_init_4 := edX6_init_0.2.2.1
def dX6_init_5 := edX6_init_0.2.2.2.1
def dX6_init_7 := edX6_init_0.2.2.2.2.1
def dX6_init_9 := edX6_init_0.2.2.2.2.2.1
def dX6_init_12 := edX6_init_0.2.2.2.2.2.2
set_option maxRecDepth 100000 in
theorem ggX6_renew_J7_fill_53178 : GoodIn wsX6_renew wsJ7_fill_53178 := goodIn_s _ [] [12] (by decide +kernel) rfl (by decide +kernel)
set_option maxRecDepth 20000 in
theorem gX6_renew_J7_fill_53178 : GoodIn wsX6_renew (va_wsS RX6 15 yJ7_fill_53178 wsJ7_fill_53178) := goodIn_app (goodIn_of _ (by decide +kernel)) ggX6_renew_J7_fill_53178
theorem edX6_renew_0 : (decode cX6_renew 0 = .ok (.aload_n 0, 1)) ∧ (decode cX6_renew 1 = .ok (.getfield 9, 3)) ∧ (decode cX6_renew 4 = .ok (.iconst 0, 1)) ∧ (decode cX6_renew 5 = .ok (.invokestatic 15, 3)) ∧ (decode cX6_renew 8 = .ok (.aload_n 0, 1)) ∧ (decode cX6_renew 9 = .ok (.iconst 1, 1)) ∧ (decode cX6_renew 10 = .ok (.putfield 21, 3)) ∧ (decode cX6_renew 13 = .ok (.aload_n 0, 1)) ∧ (decode cX6_renew 14 = .ok (.iload_n 1, 1)) ∧ (decode cX6_renew 15 = .ok (.putfield 25, 3)) ∧ (decode cX6_renew 18 = .ok (.aload_n 0, 1)) ∧ (decode cX6_renew 19 = .ok (.iload_n 2, 1)) ∧ (decode cX6_renew 20 = .ok (.aload_n 0, 1)) ∧ (decode cX6_renew 21 = .ok (.getfield 9, 3)) ∧ (decode cX6_renew 24 = .ok (.arraylength, 1)) ∧ (decode cX6_renew 25 = .ok (.invokestatic 29, 3)) := by decide +kernel
def dX6_renew_0 := edX6_renew_0.1
def dX6_renew_1 := edX6_renew_0.2.1
def dX6_renew_4 := edX6_renew_0.2.2.1
def dX6_renew_5 := edX6_renew_0.2.2.2.1
def dX6_renew_8 := edX6_renew_0.2.2.2.2.1
def dX6_renew_9 := edX6_renew_0.2.2.2.2.2.1
def dX6_renew_10 := edX6_renew_0.2.2.2.2.2.2.1
def dX6_renew_13 := edX6_renew_0.2.2.2.2.2.2.2.1
def dX6_renew_14 := edX6_renew_0.2.2.2.2.2.2.2.2.1
def dX6_renew_15 := edX6_renew_0.2.2.2.2.2.2.2.2.2.1
def dX6_renew_18 := edX6_renew_0.2.2.2.2.2.2.2.2.2.2.1
def dX6_renew_19 := edX6_renew_0.2.2.2.2.2.2.2.2.2.2.2.1
def dX6_renew_20 := edX6_renew_0.2.2.2.2.2.2.2.2.2.2.2.2.1
def dX6_renew_21 := edX6_renew_0.2.2.2.2.2.2.2.2.2.2.2.2.2.1
def dX6_renew_24 := edX6_renew_0.2.2.2.2.2.2.2.2.2.2.2.2.2.2.1
def dX6_renew_25 := edX6_renew_0.2.2.2.2.2.2.2.2.2.2.2.2.2.2.2
theorem edX6_renew_28 : (decode cX6_renew 28 = .ok (.putfield 35, 3)) ∧ (decode cX6_renew 31 = .ok (.return_, 1)) := by decide +kernel
def dX6_renew_28 := edX6_renew_28.1
def dX6_renew_31 := edX6_renew_28.2
theorem edX6_faultTakenAs_0 : (decode cX6_faultTakenAs 0 = .ok (.aload_n 0, 1)) ∧ (decode cX6_faultTakenAs 1 = .ok (.getfield 21, 3)) ∧ (decode cX6_faultTakenAs 4 = .ok (.ifCond .ne 5, 3)) ∧ (decode cX6_faultTakenAs 7 = .ok (.iconst 1, 1)) ∧ (decode cX6_faultTakenAs 8 = .ok (.ireturn, 1)) ∧ (decode cX6_faultTakenAs 9 = .ok (.aload_n 0, 1)) ∧ (decode cX6_faultTakenAs 10 = .ok (.getfield 25, 3)) ∧ (decode cX6_faultTakenAs 13 = .ok (.iload_n 1, 1)) ∧ (decode cX6_faultTakenAs 14 = .ok (.if_icmp .ne 7, 3)) ∧ (decode cX6_faultTakenAs 17 = .ok (.iconst 0, 1)) ∧ (decode cX6_faultTakenAs 18 = .ok (.goto 4, 3)) ∧ (decode cX6_faultTakenAs 21 = .ok (.iconst 2, 1)) ∧ (decode cX6_faultTakenAs 22 = .ok (.ireturn, 1)) := by decide +kernel
def dX6_faultTakenAs_0 := edX6_faultTakenAs_0.1
def dX6_faultTakenAs_1 := edX6_faultTakenAs_0.2.1
def dX6_faultTakenAs_4 := edX6_faultTakenAs_0.2.2.1
def dX6_faultTakenAs_7 := edX6_faultTakenAs_0.2.2.2.1
def dX6_faultTakenAs_8 := edX6_faultTakenAs_0.2.2.2.2.1
def dX6_faultTakenAs_9 := edX6_faultTakenAs_0.2.2.2.2.2.1
def dX6_faultTakenAs_10 := edX6_faultTakenAs_0.2.2.2.2.2.2.1
def dX6_faultTakenAs_13 := edX6_faultTakenAs_0.2.2.2.2.2.2.2.1
def dX6_faultTakenAs_14 := edX6_faultTakenAs_0.2.2.2.2.2.2.2.2.1
def dX6_faultTakenAs_17 := edX6_faultTakenAs_0.2.2.2.2.2.2.2.2.2.1
def dX6_faultTakenAs_18 := edX6_faultTakenAs_0.2.2.2.2.2.2.2.2.2.2.1
def dX6_faultTakenAs_21 := edX6_faultTakenAs_0.2.2.2.2.2.2.2.2.2.2.2.1
def dX6_faultTakenAs_22 := edX6_faultTakenAs_0.2.2.2.2.2.2.2.2.2.2.2.2
theorem edX6_holds_0 : (decode cX6_holds 0 = .ok (.iload_n 1, 1)) ∧ (decode cX6_holds 1 = .ok (.ifCond .lt 25, 3)) ∧ (decode cX6_holds 4 = .ok (.iload_n 2, 1)) ∧ (decode cX6_holds 5 = .ok (.ifCond .lt 21, 3)) ∧ (decode cX6_holds 8 = .ok (.iload_n 1, 1)) ∧ (decode cX6_holds 9 = .ok (.i2l, 1)) ∧ (decode cX6_holds 10 = .ok (.iload_n 2, 1)) ∧ (decode cX6_holds 11 = .ok (.i2l, 1)) ∧ (decode cX6_holds 12 = .ok (.ladd, 1)) ∧ (decode cX6_holds 13 = .ok (.aload_n 0, 1)) ∧ (decode cX6_holds 14 = .ok (.getfield 35, 3)) ∧ (decode cX6_holds 17 = .ok (.i2l, 1)) ∧ (decode cX6_holds 18 = .ok (.lcmp, 1)) ∧ (decode cX6_holds 19 = .ok (.ifCond .gt 7, 3)) ∧ (decode cX6_holds 22 = .ok (.iconst 1, 1)) ∧ (decode cX6_holds 23 = .ok (.goto 4, 3)) := by decide +kernel
def dX6_holds_0 := edX6_holds_0.1
def dX6_holds_1 := edX6_holds_0.2.1
def dX6_holds_4 := edX6_holds_0.2.2.1
def dX6_holds_5 := edX6_holds_0.2.2.2.1
def dX6_holds_8 := edX6_holds_0.2.2.2.2.1
def dX6_holds_9 := edX6_holds_0.2.2.2.2.2.1
def dX6_holds_10 := edX6_holds_0.2.2.2.2.2.2.1
def dX6_holds_11 := edX6_holds_0.2.2.2.2.2.2.2.1
def dX6_holds_12 := edX6_holds_0.2.2.2.2.2.2.2.2.1
def dX6_holds_13 := edX6_holds_0.2.2.2.2.2.2.2.2.2.1
def dX6_holds_14 := edX6_holds_0.2.2.2.2.2.2.2.2.2.2.1
def dX6_holds_17 := edX6_holds_0.2.2.2.2.2.2.2.2.2.2.2.1
def dX6_holds_18 := edX6_holds_0.2.2.2.2.2.2.2.2.2.2.2.2.1
def dX6_holds_19 := edX6_holds_0.2.2.2.2.2.2.2.2.2.2.2.2.2.1
def dX6_holds_22 := edX6_holds_0.2.2.2.2.2.2.2.2.2.2.2.2.2.2.1
def dX6_holds_23 := edX6_holds_0.2.2.2.2.2.2.2.2.2.2.2.2.2.2.2
theorem edX6_holds_26 : (decode cX6_holds 26 = .ok (.iconst 0, 1)) ∧ (decode cX6_holds 27 = .ok (.ireturn, 1)) := by decide +kernel
def dX6_holds_26 := edX6_holds_26.1
def dX6_holds_27 := edX6_holds_26.2
set_option maxRecDepth 100000 in
theorem ggX6_areAllWithin_X11_get : GoodIn wsX6_areAllWithin wsX11_get := goodIn_s _ [] [4] (by decide +kernel) rfl (by decide +kernel)
set_option maxRecDepth 20000 in
theorem gX6_areAllWithin_X11_get_n38 : GoodIn wsX6_areAllWithin (wsX11_get) := ggX6_areAllWithin_X11_get
set_option maxRecDepth 100000 in
theorem ggX6_areAllWithin_X11_within : GoodIn wsX6_areAllWithin wsX11_within := goodIn_s _ [] [6] (by decide +kernel) rfl (by decide +kernel)
set_option maxRecDepth 20000 in
theorem gX6_areAllWithin_X11_within_n42 : GoodIn wsX6_areAllWithin (wsX11_within) := ggX6_areAllWithin_X11_within
theorem edX6_areAllWithin_0 : (decode cX6_areAllWithin 0 = .ok (.iconst 0, 1)) ∧ (decode cX6_areAllWithin 1 = .ok (.istore 4, 2)) ∧ (decode cX6_areAllWithin 3 = .ok (.iload 4, 2)) ∧ (decode cX6_areAllWithin 5 = .ok (.iload_n 2, 1)) ∧ (decode cX6_areAllWithin 6 = .ok (.if_icmp .ge 30, 3)) ∧ (decode cX6_areAllWithin 9 = .ok (.aload_n 0, 1)) ∧ (decode cX6_areAllWithin 10 = .ok (.getfield 9, 3)) ∧ (decode cX6_areAllWithin 13 = .ok (.iload_n 1, 1)) ∧ (decode cX6_areAllWithin 14 = .ok (.iload 4, 2)) ∧ (decode cX6_areAllWithin 16 = .ok (.iadd, 1)) ∧ (decode cX6_areAllWithin 17 = .ok (.invokestatic 38, 3)) ∧ (decode cX6_areAllWithin 20 = .ok (.iconst 0, 1)) ∧ (decode cX6_areAllWithin 21 = .ok (.iload_n 3, 1)) ∧ (decode cX6_areAllWithin 22 = .ok (.invokestatic 42, 3)) ∧ (decode cX6_areAllWithin 25 = .ok (.ifCond .ne 5, 3)) ∧ (decode cX6_areAllWithin 28 = .ok (.iconst 0, 1)) := by decide +kernel
def dX6_areAllWithin_0 := edX6_areAllWithin_0.1
def dX6_areAllWithin_1 := edX6_areAllWithin_0.2.1
def dX6_areAllWithin_3 := edX6_areAllWithin_0.2.2.1
def dX6_areAllWithin_5 := edX6_areAllWithin_0.2.2.2.1
def dX6_areAllWithin_6 := edX6_areAllWithin_0.2.2.2.2.1
def dX6_areAllWithin_9 := edX6_areAllWithin_0.2.2.2.2.2.1
def dX6_areAllWithin_10 := edX6_areAllWithin_0.2.2.2.2.2.2.1
def dX6_areAllWithin_13 := edX6_areAllWithin_0.2.2.2.2.2.2.2.1
def dX6_areAllWithin_14 := edX6_areAllWithin_0.2.2.2.2.2.2.2.2.1
def dX6_areAllWithin_16 := edX6_areAllWithin_0.2.2.2.2.2.2.2.2.2.1
def dX6_areAllWithin_17 := edX6_areAllWithin_0.2.2.2.2.2.2.2.2.2.2.1
def dX6_areAllWithin_20 := edX6_areAllWithin_0.2.2.2.2.2.2.2.2.2.2.2.1
def dX6_areAllWithin_21 := edX6_areAllWithin_0.2.2.2.2.2.2.2.2.2.2.2.2.1
def dX6_areAllWithin_22 := edX6_areAllWithin_0.2.2.2.2.2.2.2.2.2.2.2.2.2.1
def dX6_areAllWithin_25 := edX6_areAllWithin_0.2.2.2.2.2.2.2.2.2.2.2.2.2.2.1
def dX6_areAllWithin_28 := edX6_areAllWithin_0.2.2.2.2.2.2.2.2.2.2.2.2.2.2.2
theorem edX6_areAllWithin_29 : (decode cX6_areAllWithin 29 = .ok (.ireturn, 1)) ∧ (decode cX6_areAllWithin 30 = .ok (.iinc 4 1, 3)) ∧ (decode cX6_areAllWithin 33 = .ok (.goto (-30), 3)) ∧ (decode cX6_areAllWithin 36 = .ok (.iconst 1, 1)) ∧ (decode cX6_areAllWithin 37 = .ok (.ireturn, 1)) := by decide +kernel
def dX6_areAllWithin_29 := edX6_areAllWithin_29.1
def dX6_areAllWithin_30 := edX6_areAllWithin_29.2.1
def dX6_areAllWithin_33 := edX6_areAllWithin_29.2.2.1
def dX6_areAllWithin_36 := edX6_areAllWithin_29.2.2.2.1
def dX6_areAllWithin_37 := edX6_areAllWithin_29.2.2.2.2
set_option maxRecDepth 100000 in
theorem ggX6_write_X11_set : GoodIn wsX6_write wsX11_set := goodIn_s _ [] [5] (by decide +kernel) rfl (by decide +kernel)
set_option maxRecDepth 20000 in
theorem gX6_write_X11_set_n46 : GoodIn wsX6_write (wsX11_set) := ggX6_write_X11_set
theorem edX6_write_0 : (decode cX6_write 0 = .ok (.aload_n 0, 1)) ∧ (decode cX6_write 1 = .ok (.getfield 9, 3)) ∧ (decode cX6_write 4 = .ok (.iload_n 1, 1)) ∧ (decode cX6_write 5 = .ok (.aload_n 0, 1)) ∧ (decode cX6_write 6 = .ok (.getfield 25, 3)) ∧ (decode cX6_write 9 = .ok (.ifCond .ne 8, 3)) ∧ (decode cX6_write 12 = .ok (.iload_n 2, 1)) ∧ (decode cX6_write 13 = .ok (.i2b, 1)) ∧ (decode cX6_write 14 = .ok (.goto 17, 3)) ∧ (decode cX6_write 17 = .ok (.aload_n 0, 1)) ∧ (decode cX6_write 18 = .ok (.getfield 25, 3)) ∧ (decode cX6_write 21 = .ok (.iconst 1, 1)) ∧ (decode cX6_write 22 = .ok (.if_icmp .ne 8, 3)) ∧ (decode cX6_write 25 = .ok (.iload_n 2, 1)) ∧ (decode cX6_write 26 = .ok (.i2s, 1)) ∧ (decode cX6_write 27 = .ok (.goto 4, 3)) := by decide +kernel
def dX6_write_0 := edX6_write_0.1
def dX6_write_1 := edX6_write_0.2.1
def dX6_write_4 := edX6_write_0.2.2.1
def dX6_write_5 := edX6_write_0.2.2.2.1
def dX6_write_6 := edX6_write_0.2.2.2.2.1
def dX6_write_9 := edX6_write_0.2.2.2.2.2.1
def dX6_write_12 := edX6_write_0.2.2.2.2.2.2.1
def dX6_write_13 := edX6_write_0.2.2.2.2.2.2.2.1
def dX6_write_14 := edX6_write_0.2.2.2.2.2.2.2.2.1
def dX6_write_17 := edX6_write_0.2.2.2.2.2.2.2.2.2.1
def dX6_write_18 := edX6_write_0.2.2.2.2.2.2.2.2.2.2.1
def dX6_write_21 := edX6_write_0.2.2.2.2.2.2.2.2.2.2.2.1
def dX6_write_22 := edX6_write_0.2.2.2.2.2.2.2.2.2.2.2.2.1
def dX6_write_25 := edX6_write_0.2.2.2.2.2.2.2.2.2.2.2.2.2.1
def dX6_write_26 := edX6_write_0.2.2.2.2.2.2.2.2.2.2.2.2.2.2.1
def dX6_write_27 := edX6_write_0.2.2.2.2.2.2.2.2.2.2.2.2.2.2.2
theorem edX6_write_30 : (decode cX6_write 30 = .ok (.iload_n 2, 1)) ∧ (decode cX6_write 31 = .ok (.invokestatic 46, 3)) ∧ (decode cX6_write 34 = .ok (.return_, 1)) := by decide +kernel
def dX6_write_30 := edX6_write_30.1
def dX6_write_31 := edX6_write_30.2.1
def dX6_write_34 := edX6_write_30.2.2
set_option maxRecDepth 100000 in
theorem ggX7_init_X8_init : GoodIn wsX7_init wsX8_init := goodIn_ca (b := wsX80) (goodIn_s _ [14, 2, 15] [13, 3] (by decide +kernel) rfl (by decide +kernel)) (goodIn_sub (fun w h => List.mem_cons_of_mem _ (List.mem_append_right _ h)) gs_wsX80)
set_option maxRecDepth 20000 in
theorem gX7_init_X8_init_n23 : GoodIn wsX7_init (wsX8_init) := ggX7_init_X8_init
theorem edX7_init_0 : (decode cX7_init 0 = .ok (.aload_n 0, 1)) ∧ (decode cX7_init 1 = .ok (.invokespecial 3, 3)) ∧ (decode cX7_init 4 = .ok (.aload_n 0, 1)) ∧ (decode cX7_init 5 = .ok (.bipush 6, 2)) ∧ (decode cX7_init 7 = .ok (.newarray .int, 2)) ∧ (decode cX7_init 9 = .ok (.putfield 9, 3)) ∧ (decode cX7_init 12 = .ok (.aload_n 0, 1)) ∧ (decode cX7_init 13 = .ok (.bipush 6, 2)) ∧ (decode cX7_init 15 = .ok (.newarray .int, 2)) ∧ (decode cX7_init 17 = .ok (.putfield 15, 3)) ∧ (decode cX7_init 20 = .ok (.aload_n 0, 1)) ∧ (decode cX7_init 21 = .ok (.bipush 6, 2)) ∧ (decode cX7_init 23 = .ok (.newarray .int, 2)) ∧ (decode cX7_init 25 = .ok (.putfield 18, 3)) ∧ (decode cX7_init 28 = .ok (.aload_n 0, 1)) ∧ (decode cX7_init 29 = .ok (.new 21, 3)) := by decide +kernel
def dX7_init_0 := edX7_init_0.1
def dX7_init_1 := edX7_init_0.2.1
def dX7_init_4 := edX7_init_0.2.2.1
def dX7_init_5 := edX7_init_0.2.2.2.1
def dX7_init_7 := edX7_init_0.2.2.2.2.1
def dX7_init_9 := edX7_init_0.2.2.2.2.2.1
def dX7_init_12 := edX7_init_0.2.2.2.2.2.2.1
def dX7_init_13 := edX7_init_0.2.2.2.2.2.2.2.1
def dX7_init_15 := edX7_init_0.2.2.2.2.2.2.2.2.1
def dX7_init_17 := edX7_init_0.2.2.2.2.2.2.2.2.2.1
def dX7_init_20 := edX7_init_0.2.2.2.2.2.2.2.2.2.2.1
def dX7_init_21 := edX7_init_0.2.2.2.2.2.2.2.2.2.2.2.1
def dX7_init_23 := edX7_init_0.2.2.2.2.2.2.2.2.2.2.2.2.1
def dX7_init_25 := edX7_init_0.2.2.2.2.2.2.2.2.2.2.2.2.2.1
def dX7_init_28 := edX7_init_0.2.2.2.2.2.2.2.2.2.2.2.2.2.2.1
def dX7_init_29 := edX7_init_0.2.2.2.2.2.2.2.2.2.2.2.2.2.2.2
theorem edX7_init_32 : (decode cX7_init 32 = .ok (.dup, 1)) ∧ (decode cX7_init 33 = .ok (.invokespecial 23, 3)) ∧ (decode cX7_init 36 = .ok (.putfield 24, 3)) ∧ (decode cX7_init 39 = .ok (.return_, 1)) := by decide +kernel
def dX7_init_32 := edX7_init_32.1
def dX7_init_33 := edX7_init_32.2.1
def dX7_init_36 := edX7_init_32.2.2.1
def dX7_init_39 := edX7_init_32.2.2.2
set_option maxRecDepth 100000 in
theorem ggX7_become_X11_get : GoodIn wsX7_become wsX11_get := goodIn_s _ [] [8] (by decide +kernel) rfl (by decide +kernel)
set_option maxRecDepth 20000 in
theorem gX7_become_X11_get_n28 : GoodIn wsX7_become (wsX11_get) := ggX7_become_X11_get
set_option maxRecDepth 100000 in
theorem ggX7_become_X11_set : GoodIn wsX7_become wsX11_set := goodIn_s _ [] [10] (by decide +kernel) rfl (by decide +kernel)
set_option maxRecDepth 20000 in
theorem gX7_become_X11_set_n32 : GoodIn wsX7_become (wsX11_set) := ggX7_become_X11_set
set_option maxRecDepth 100000 in
theorem ggX7_become_X8_become : GoodIn wsX7_become wsX8_become := goodIn_ca (b := wsX80) (goodIn_s _ [16, 17, 18, 19] [15] (by decide +kernel) rfl (by decide +kernel)) (goodIn_sub (fun w h => List.mem_cons_of_mem _ (List.mem_append_right _ h)) gs_wsX80)
set_option maxRecDepth 20000 in
theorem gX7_become_X8_become : GoodIn wsX7_become (wsV RX7 36 RX8 yX8_become wsX8_become) := goodIn_app (goodIn_of _ (by decide +kernel)) ggX7_become_X8_become
theorem edX7_become_0 : (decode cX7_become 0 = .ok (.iconst 0, 1)) ∧ (decode cX7_become 1 = .ok (.istore_n 2, 1)) ∧ (decode cX7_become 2 = .ok (.iload_n 2, 1)) ∧ (decode cX7_become 3 = .ok (.bipush 6, 2)) ∧ (decode cX7_become 5 = .ok (.if_icmp .ge 57, 3)) ∧ (decode cX7_become 8 = .ok (.aload_n 0, 1)) ∧ (decode cX7_become 9 = .ok (.getfield 9, 3)) ∧ (decode cX7_become 12 = .ok (.iload_n 2, 1)) ∧ (decode cX7_become 13 = .ok (.aload_n 1, 1)) ∧ (decode cX7_become 14 = .ok (.getfield 9, 3)) ∧ (decode cX7_become 17 = .ok (.iload_n 2, 1)) ∧ (decode cX7_become 18 = .ok (.invokestatic 28, 3)) ∧ (decode cX7_become 21 = .ok (.invokestatic 32, 3)) ∧ (decode cX7_become 24 = .ok (.aload_n 0, 1)) ∧ (decode cX7_become 25 = .ok (.getfield 15, 3)) ∧ (decode cX7_become 28 = .ok (.iload_n 2, 1)) := by decide +kernel
def dX7_become_0 := edX7_become_0.1
def dX7_become_1 := edX7_become_0.2.1
def dX7_become_2 := edX7_become_0.2.2.1
def dX7_become_3 := edX7_become_0.2.2.2.1
def dX7_become_5 := edX7_become_0.2.2.2.2.1
def dX7_become_8 := edX7_become_0.2.2.2.2.2.1
def dX7_become_9 := edX7_become_0.2.2.2.2.2.2.1
def dX7_become_12 := edX7_become_0.2.2.2.2.2.2.2.1
def dX7_become_13 := edX7_become_0.2.2.2.2.2.2.2.2.1
def dX7_become_14 := edX7_become_0.2.2.2.2.2.2.2.2.2.1
def dX7_become_17 := edX7_become_0.2.2.2.2.2.2.2.2.2.2.1
def dX7_become_18 := edX7_become_0.2.2.2.2.2.2.2.2.2.2.2.1
def dX7_become_21 := edX7_become_0.2.2.2.2.2.2.2.2.2.2.2.2.1
def dX7_become_24 := edX7_become_0.2.2.2.2.2.2.2.2.2.2.2.2.2.1
def dX7_become_25 := edX7_become_0.2.2.2.2.2.2.2.2.2.2.2.2.2.2.1
def dX7_become_28 := edX7_become_0.2.2.2.2.2.2.2.2.2.2.2.2.2.2.2
theorem edX7_become_29 : (decode cX7_become 29 = .ok (.aload_n 1, 1)) ∧ (decode cX7_become 30 = .ok (.getfield 15, 3)) ∧ (decode cX7_become 33 = .ok (.iload_n 2, 1)) ∧ (decode cX7_become 34 = .ok (.invokestatic 28, 3)) ∧ (decode cX7_become 37 = .ok (.invokestatic 32, 3)) ∧ (decode cX7_become 40 = .ok (.aload_n 0, 1)) ∧ (decode cX7_become 41 = .ok (.getfield 18, 3)) ∧ (decode cX7_become 44 = .ok (.iload_n 2, 1)) ∧ (decode cX7_become 45 = .ok (.aload_n 1, 1)) ∧ (decode cX7_become 46 = .ok (.getfield 18, 3)) ∧ (decode cX7_become 49 = .ok (.iload_n 2, 1)) ∧ (decode cX7_become 50 = .ok (.invokestatic 28, 3)) ∧ (decode cX7_become 53 = .ok (.invokestatic 32, 3)) ∧ (decode cX7_become 56 = .ok (.iinc 2 1, 3)) ∧ (decode cX7_become 59 = .ok (.goto (-57), 3)) ∧ (decode cX7_become 62 = .ok (.aload_n 0, 1)) := by decide +kernel
def dX7_become_29 := edX7_become_29.1
def dX7_become_30 := edX7_become_29.2.1
def dX7_become_33 := edX7_become_29.2.2.1
def dX7_become_34 := edX7_become_29.2.2.2.1
def dX7_become_37 := edX7_become_29.2.2.2.2.1
def dX7_become_40 := edX7_become_29.2.2.2.2.2.1
def dX7_become_41 := edX7_become_29.2.2.2.2.2.2.1
def dX7_become_44 := edX7_become_29.2.2.2.2.2.2.2.1
def dX7_become_45 := edX7_become_29.2.2.2.2.2.2.2.2.1
def dX7_become_46 := edX7_become_29.2.2.2.2.2.2.2.2.2.1
def dX7_become_49 := edX7_become_29.2.2.2.2.2.2.2.2.2.2.1
def dX7_become_50 := edX7_become_29.2.2.2.2.2.2.2.2.2.2.2.1
def dX7_become_53 := edX7_become_29.2.2.2.2.2.2.2.2.2.2.2.2.1
def dX7_become_56 := edX7_become_29.2.2.2.2.2.2.2.2.2.2.2.2.2.1
def dX7_become_59 := edX7_become_29.2.2.2.2.2.2.2.2.2.2.2.2.2.2.1
def dX7_become_62 := edX7_become_29.2.2.2.2.2.2.2.2.2.2.2.2.2.2.2
theorem edX7_become_63 : (decode cX7_become 63 = .ok (.getfield 24, 3)) ∧ (decode cX7_become 66 = .ok (.aload_n 1, 1)) ∧ (decode cX7_become 67 = .ok (.getfield 24, 3)) ∧ (decode cX7_become 70 = .ok (.invokevirtual 36, 3)) ∧ (decode cX7_become 73 = .ok (.aload_n 0, 1)) ∧ (decode cX7_become 74 = .ok (.aload_n 1, 1)) ∧ (decode cX7_become 75 = .ok (.getfield 40, 3)) ∧ (decode cX7_become 78 = .ok (.putfield 40, 3)) ∧ (decode cX7_become 81 = .ok (.return_, 1)) := by decide +kernel
def dX7_become_63 := edX7_become_63.1
def dX7_become_66 := edX7_become_63.2.1
def dX7_become_67 := edX7_become_63.2.2.1
def dX7_become_70 := edX7_become_63.2.2.2.1
def dX7_become_73 := edX7_become_63.2.2.2.2.1
def dX7_become_74 := edX7_become_63.2.2.2.2.2.1
def dX7_become_75 := edX7_become_63.2.2.2.2.2.2.1
def dX7_become_78 := edX7_become_63.2.2.2.2.2.2.2.1
def dX7_become_81 := edX7_become_63.2.2.2.2.2.2.2.2
theorem edX8_init_0 : (decode cX8_init 0 = .ok (.aload_n 0, 1)) ∧ (decode cX8_init 1 = .ok (.invokespecial 1, 3)) ∧ (decode cX8_init 4 = .ok (.aload_n 0, 1)) ∧ (decode cX8_init 5 = .ok (.iconst 1, 1)) ∧ (decode cX8_init 6 = .ok (.putfield 7, 3)) ∧ (decode cX8_init 9 = .ok (.return_, 1)) := by decide +kernel
def dX8_init_0 := edX8_init_0.1
def dX8_init_1 := edX8_init_0.2.1
def dX8_init_4 := edX8_init_0.2.2.1
def dX8_init_5 := edX8_init_0.2.2.2.1
def dX8_init_6 := edX8_init_0.2.2.2.2.1
def dX8_init_9 := edX8_init_0.2.2.2.2.2
theorem edX8_pressure_0 : (decode cX8_pressure 0 = .ok (.aload_n 0, 1)) ∧ (decode cX8_pressure 1 = .ok (.getfield 7, 3)) ∧ (decode cX8_pressure 4 = .ok (.ifCond .gt 10, 3)) ∧ (decode cX8_pressure 7 = .ok (.aload_n 0, 1)) ∧ (decode cX8_pressure 8 = .ok (.getfield 13, 3)) ∧ (decode cX8_pressure 11 = .ok (.goto 17, 3)) ∧ (decode cX8_pressure 14 = .ok (.aload_n 0, 1)) ∧ (decode cX8_pressure 15 = .ok (.getfield 13, 3)) ∧ (decode cX8_pressure 18 = .ok (.aload_n 0, 1)) ∧ (decode cX8_pressure 19 = .ok (.getfield 16, 3)) ∧ (decode cX8_pressure 22 = .ok (.aload_n 0, 1)) ∧ (decode cX8_pressure 23 = .ok (.getfield 7, 3)) ∧ (decode cX8_pressure 26 = .ok (.idiv, 1)) ∧ (decode cX8_pressure 27 = .ok (.iadd, 1)) ∧ (decode cX8_pressure 28 = .ok (.ireturn, 1)) := by decide +kernel
def dX8_pressure_0 := edX8_pressure_0.1
def dX8_pressure_1 := edX8_pressure_0.2.1
def dX8_pressure_4 := edX8_pressure_0.2.2.1
def dX8_pressure_7 := edX8_pressure_0.2.2.2.1
def dX8_pressure_8 := edX8_pressure_0.2.2.2.2.1
def dX8_pressure_11 := edX8_pressure_0.2.2.2.2.2.1
def dX8_pressure_14 := edX8_pressure_0.2.2.2.2.2.2.1
def dX8_pressure_15 := edX8_pressure_0.2.2.2.2.2.2.2.1
def dX8_pressure_18 := edX8_pressure_0.2.2.2.2.2.2.2.2.1
def dX8_pressure_19 := edX8_pressure_0.2.2.2.2.2.2.2.2.2.1
def dX8_pressure_22 := edX8_pressure_0.2.2.2.2.2.2.2.2.2.2.1
def dX8_pressure_23 := edX8_pressure_0.2.2.2.2.2.2.2.2.2.2.2.1
def dX8_pressure_26 := edX8_pressure_0.2.2.2.2.2.2.2.2.2.2.2.2.1
def dX8_pressure_27 := edX8_pressure_0.2.2.2.2.2.2.2.2.2.2.2.2.2.1
def dX8_pressure_28 := edX8_pressure_0.2.2.2.2.2.2.2.2.2.2.2.2.2.2
theorem edX8_become_0 : (decode cX8_become 0 = .ok (.aload_n 0, 1)) ∧ (decode cX8_become 1 = .ok (.aload_n 1, 1)) ∧ (decode cX8_become 2 = .ok (.getfield 19, 3)) ∧ (decode cX8_become 5 = .ok (.putfield 19, 3)) ∧ (decode cX8_become 8 = .ok (.aload_n 0, 1)) ∧ (decode cX8_become 9 = .ok (.aload_n 1, 1)) ∧ (decode cX8_become 10 = .ok (.getfield 13, 3)) ∧ (decode cX8_become 13 = .ok (.putfield 13, 3)) ∧ (decode cX8_become 16 = .ok (.aload_n 0, 1)) ∧ (decode cX8_become 17 = .ok (.aload_n 1, 1)) ∧ (decode cX8_become 18 = .ok (.getfield 7, 3)) ∧ (decode cX8_become 21 = .ok (.putfield 7, 3)) ∧ (decode cX8_become 24 = .ok (.aload_n 0, 1)) ∧ (decode cX8_become 25 = .ok (.aload_n 1, 1)) ∧ (decode cX8_become 26 = .ok (.getfield 16, 3)) ∧ (decode cX8_become 29 = .ok (.putfield 16, 3)) := by decide +kernel
def dX8_become_0 := edX8_become_0.1
def dX8_become_1 := edX8_become_0.2.1
def dX8_become_2 := edX8_become_0.2.2.1
def dX8_become_5 := edX8_become_0.2.2.2.1
def dX8_become_8 := edX8_become_0.2.2.2.2.1
def dX8_become_9 := edX8_become_0.2.2.2.2.2.1
def dX8_become_10 := edX8_become_0.2.2.2.2.2.2.1
def dX8_become_13 := edX8_become_0.2.2.2.2.2.2.2.1
def dX8_become_16 := edX8_become_0.2.2.2.2.2.2.2.2.1
def dX8_become_17 := edX8_become_0.2.2.2.2.2.2.2.2.2.1
def dX8_become_18 := edX8_become_0.2.2.2.2.2.2.2.2.2.2.1
def dX8_become_21 := edX8_become_0.2.2.2.2.2.2.2.2.2.2.2.1
def dX8_become_24 := edX8_become_0.2.2.2.2.2.2.2.2.2.2.2.2.1
def dX8_become_25 := edX8_become_0.2.2.2.2.2.2.2.2.2.2.2.2.2.1
def dX8_become_26 := edX8_become_0.2.2.2.2.2.2.2.2.2.2.2.2.2.2.1
def dX8_become_29 := edX8_become_0.2.2.2.2.2.2.2.2.2.2.2.2.2.2.2
theorem dX8_become_32 : decode cX8_become 32 = .ok (.return_, 1) := by decide +kernel
theorem edX9_init_0 : (decode cX9_init 0 = .ok (.aload_n 0, 1)) ∧ (decode cX9_init 1 = .ok (.invokespecial 1, 3)) ∧ (decode cX9_init 4 = .ok (.return_, 1)) := by decide +kernel
def dX9_init_0 := edX9_init_0.1
def dX9_init_1 := edX9_init_0.2.1
def dX9_init_4 := edX9_init_0.2.2
theorem edX9_leave_0 : (decode cX9_leave 0 = .ok (.aload_n 0, 1)) ∧ (decode cX9_leave 1 = .ok (.bipush 31, 2)) ∧ (decode cX9_leave 3 = .ok (.aload_n 0, 1)) ∧ (decode cX9_leave 4 = .ok (.getfield 7, 3)) ∧ (decode cX9_leave 7 = .ok (.imul, 1)) ∧ (decode cX9_leave 8 = .ok (.iload_n 1, 1)) ∧ (decode cX9_leave 9 = .ok (.iadd, 1)) ∧ (decode cX9_leave 10 = .ok (.putfield 7, 3)) ∧ (decode cX9_leave 13 = .ok (.return_, 1)) := by decide +kernel
def dX9_leave_0 := edX9_leave_0.1
def dX9_leave_1 := edX9_leave_0.2.1
def dX9_leave_3 := edX9_leave_0.2.2.1
def dX9_leave_4 := edX9_leave_0.2.2.2.1
def dX9_leave_7 := edX9_leave_0.2.2.2.2.1
def dX9_leave_8 := edX9_leave_0.2.2.2.2.2.1
def dX9_leave_9 := edX9_leave_0.2.2.2.2.2.2.1
def dX9_leave_10 := edX9_leave_0.2.2.2.2.2.2.2.1
def dX9_leave_13 := edX9_leave_0.2.2.2.2.2.2.2.2
set_option maxRecDepth 100000 in
theorem ggX10_init_X2_init : GoodIn wsX10_init wsX2_init := goodIn_ca (b := wsX100) (goodIn_ca (b := wsX20) (goodIn_ca (b := wsX00) (goodIn_s _ [5, 6, 7, 9, 10, 12, 13, 14, 15, 16, 17, 18] [4, 8, 11] (by decide +kernel) rfl (by decide +kernel)) (goodIn_sub (fun w h => List.mem_cons_of_mem _ (List.mem_append_left _ (List.mem_append_left _ (List.mem_append_right _ h)))) gs_wsX00)) (goodIn_sub (fun w h => List.mem_cons_of_mem _ (List.mem_append_left _ (List.mem_append_right _ h))) gs_wsX20)) (goodIn_sub (fun w h => List.mem_cons_of_mem _ (List.mem_append_right _ h)) gs_wsX100)
set_option maxRecDepth 20000 in
theorem gX10_init_X2_init : GoodIn wsX10_init (wsX2_init) := ggX10_init_X2_init
theorem edX10_init_0 : (decode cX10_init 0 = .ok (.aload_n 0, 1)) ∧ (decode cX10_init 1 = .ok (.iload_n 1, 1)) ∧ (decode cX10_init 2 = .ok (.iload_n 2, 1)) ∧ (decode cX10_init 3 = .ok (.iload_n 3, 1)) ∧ (decode cX10_init 4 = .ok (.invokespecial 1, 3)) ∧ (decode cX10_init 7 = .ok (.return_, 1)) := by decide +kernel
def dX10_init_0 := edX10_init_0.1
def dX10_init_1 := edX10_init_0.2.1
def dX10_init_2 := edX10_init_0.2.2.1
def dX10_init_3 := edX10_init_0.2.2.2.1
def dX10_init_4 := edX10_init_0.2.2.2.2.1
def dX10_init_7 := edX10_init_0.2.2.2.2.2
theorem edX10_kind_0 : (decode cX10_kind 0 = .ok (.iconst 2, 1)) ∧ (decode cX10_kind 1 = .ok (.ireturn, 1)) := by decide +kernel
def dX10_kind_0 := edX10_kind_0.1
def dX10_kind_1 := edX10_kind_0.2
theorem edX10_pushAgainst_0 : (decode cX10_pushAgainst 0 = .ok (.aload_n 0, 1)) ∧ (decode cX10_pushAgainst 1 = .ok (.iload_n 1, 1)) ∧ (decode cX10_pushAgainst 2 = .ok (.invokespecial 7, 3)) ∧ (decode cX10_pushAgainst 5 = .ok (.iconst 1, 1)) ∧ (decode cX10_pushAgainst 6 = .ok (.iadd, 1)) ∧ (decode cX10_pushAgainst 7 = .ok (.iconst 2, 1)) ∧ (decode cX10_pushAgainst 8 = .ok (.idiv, 1)) ∧ (decode cX10_pushAgainst 9 = .ok (.ireturn, 1)) := by decide +kernel
def dX10_pushAgainst_0 := edX10_pushAgainst_0.1
def dX10_pushAgainst_1 := edX10_pushAgainst_0.2.1
def dX10_pushAgainst_2 := edX10_pushAgainst_0.2.2.1
def dX10_pushAgainst_5 := edX10_pushAgainst_0.2.2.2.1
def dX10_pushAgainst_6 := edX10_pushAgainst_0.2.2.2.2.1
def dX10_pushAgainst_7 := edX10_pushAgainst_0.2.2.2.2.2.1
def dX10_pushAgainst_8 := edX10_pushAgainst_0.2.2.2.2.2.2.1
def dX10_pushAgainst_9 := edX10_pushAgainst_0.2.2.2.2.2.2.2
set_option maxRecDepth 100000 in
theorem ggX10_toldBy_X9_leave : GoodIn wsX10_toldBy wsX9_leave := goodIn_ca (b := wsX90) (goodIn_s _ [6] [5] (by decide +kernel) rfl (by decide +kernel)) (goodIn_sub (fun w h => List.mem_cons_of_mem _ (List.mem_append_right _ h)) gs_wsX90)
set_option maxRecDepth 20000 in
theorem gX10_toldBy_X9_leave : GoodIn wsX10_toldBy (wsV RX10 11 RX9 yX9_leave wsX9_leave) := goodIn_app (goodIn_of _ (by decide +kernel)) ggX10_toldBy_X9_leave
set_option maxRecDepth 100000 in
theorem ggX10_toldBy_X0_plainlyTold : GoodIn wsX10_toldBy wsX0_plainlyTold := goodIn_ca (b := wsX90) (goodIn_s _ [13, 2, 3, 4, 6] [12, 5] (by decide +kernel) rfl (by decide +kernel)) (goodIn_sub (fun w h => List.mem_cons_of_mem _ (List.mem_append_right _ h)) gs_wsX90)
set_option maxRecDepth 20000 in
theorem gX10_toldBy_X0_plainlyTold_u17X10 : GoodIn wsX10_toldBy (va_wsU RX10 17 RX10 "OilPush$Cylinder" ⟨"OilPush$Twin", "plainlyTold", "(LOilPush$Trace;I)I"⟩ yX0_plainlyTold wsX0_plainlyTold) := goodIn_app (goodIn_of _ (by decide +kernel)) ggX10_toldBy_X0_plainlyTold
theorem edX10_toldBy_0 : (decode cX10_toldBy 0 = .ok (.aload_n 1, 1)) ∧ (decode cX10_toldBy 1 = .ok (.iconst 3, 1)) ∧ (decode cX10_toldBy 2 = .ok (.invokevirtual 11, 3)) ∧ (decode cX10_toldBy 5 = .ok (.iconst 2, 1)) ∧ (decode cX10_toldBy 6 = .ok (.aload_n 0, 1)) ∧ (decode cX10_toldBy 7 = .ok (.aload_n 1, 1)) ∧ (decode cX10_toldBy 8 = .ok (.iload_n 2, 1)) ∧ (decode cX10_toldBy 9 = .ok (.invokevirtual 17, 3)) ∧ (decode cX10_toldBy 12 = .ok (.imul, 1)) ∧ (decode cX10_toldBy 13 = .ok (.ireturn, 1)) := by decide +kernel
def dX10_toldBy_0 := edX10_toldBy_0.1
def dX10_toldBy_1 := edX10_toldBy_0.2.1
def dX10_toldBy_2 := edX10_toldBy_0.2.2.1
def dX10_toldBy_5 := edX10_toldBy_0.2.2.2.1
def dX10_toldBy_6 := edX10_toldBy_0.2.2.2.2.1
def dX10_toldBy_7 := edX10_toldBy_0.2.2.2.2.2.1
def dX10_toldBy_8 := edX10_toldBy_0.2.2.2.2.2.2.1
def dX10_toldBy_9 := edX10_toldBy_0.2.2.2.2.2.2.2.1
def dX10_toldBy_12 := edX10_toldBy_0.2.2.2.2.2.2.2.2.1
def dX10_toldBy_13 := edX10_toldBy_0.2.2.2.2.2.2.2.2.2
set_option maxRecDepth 100000 in
theorem ggX10_seenBy_X9_leave : GoodIn wsX10_seenBy wsX9_leave := goodIn_ca (b := wsX90) (goodIn_s _ [6] [5] (by decide +kernel) rfl (by decide +kernel)) (goodIn_sub (fun w h => List.mem_cons_of_mem _ (List.mem_append_right _ h)) gs_wsX90)
set_option maxRecDepth 20000 in
theorem gX10_seenBy_X9_leave : GoodIn wsX10_seenBy (wsV RX10 11 RX9 yX9_leave wsX9_leave) := goodIn_app (goodIn_of _ (by decide +kernel)) ggX10_seenBy_X9_leave
theorem edX10_seenBy_0 : (decode cX10_seenBy 0 = .ok (.aload_n 1, 1)) ∧ (decode cX10_seenBy 1 = .ok (.iconst 5, 1)) ∧ (decode cX10_seenBy 2 = .ok (.invokevirtual 11, 3)) ∧ (decode cX10_seenBy 5 = .ok (.bipush 88, 2)) ∧ (decode cX10_seenBy 7 = .ok (.ireturn, 1)) := by decide +kernel
def dX10_seenBy_0 := edX10_seenBy_0.1
def dX10_seenBy_1 := edX10_seenBy_0.2.1
def dX10_seenBy_2 := edX10_seenBy_0.2.2.1
def dX10_seenBy_5 := edX10_seenBy_0.2.2.2.1
def dX10_seenBy_7 := edX10_seenBy_0.2.2.2.2
set_option maxRecDepth 100000 in
theorem ggX11_init_X4_init : GoodIn wsX11_init wsX4_init := goodIn_ca (b := wsX40) (goodIn_s _ [39, 2, 40, 41, 42, 23, 43] [38, 3] (by decide +kernel) rfl (by decide +kernel)) (goodIn_sub (fun w h => List.mem_cons_of_mem _ (List.mem_append_left _ (List.mem_append_left _ (List.mem_append_left _ (List.mem_append_left _ (List.mem_append_left _ (List.mem_append_left _ (List.mem_append_left _ (List.mem_append_left _ (List.mem_append_right _ h)))))))))) gs_wsX40)
set_option maxRecDepth 20000 in
theorem gX11_init_X4_init_n11 : GoodIn wsX11_init (wsX4_init) := ggX11_init_X4_init
set_option maxRecDepth 100000 in
theorem ggX11_init_X7_init : GoodIn wsX11_init wsX7_init := goodIn_ca (b := wsX80) (goodIn_ca (b := wsX70) (goodIn_s _ [46, 2, 23, 47, 48, 49, 50, 51, 52, 53, 54, 56, 57] [45, 3, 55] (by decide +kernel) rfl (by decide +kernel)) (goodIn_sub (fun w h => List.mem_cons_of_mem _ (List.mem_append_left _ (List.mem_append_left _ (List.mem_append_left _ (List.mem_append_left _ (List.mem_append_left _ (List.mem_append_left _ (List.mem_append_right _ h)))))))) gs_wsX70)) (goodIn_sub (fun w h => List.mem_cons_of_mem _ (List.mem_append_right _ h)) gs_wsX80)
set_option maxRecDepth 20000 in
theorem gX11_init_X7_init_n20 : GoodIn wsX11_init (wsX7_init) := ggX11_init_X7_init
set_option maxRecDepth 100000 in
theorem ggX11_init_X1_init : GoodIn wsX11_init wsX1_init := goodIn_ca (b := wsX10) (goodIn_s _ [60, 2, 23, 61, 62, 63, 64, 65] [59, 3] (by decide +kernel) rfl (by decide +kernel)) (goodIn_sub (fun w h => List.mem_cons_of_mem _ (List.mem_append_left _ (List.mem_append_left _ (List.mem_append_left _ (List.mem_append_left _ (List.mem_append_left _ (List.mem_append_right _ h))))))) gs_wsX10)
set_option maxRecDepth 20000 in
theorem gX11_init_X1_init_n27 : GoodIn wsX11_init (wsX1_init) := ggX11_init_X1_init
set_option maxRecDepth 100000 in
theorem ggX11_init_X3_init : GoodIn wsX11_init wsX3_init := goodIn_ca (b := wsX30) (goodIn_s _ [68, 2, 23, 69, 70, 71, 72] [67, 3] (by decide +kernel) rfl (by decide +kernel)) (goodIn_sub (fun w h => List.mem_cons_of_mem _ (List.mem_append_left _ (List.mem_append_left _ (List.mem_append_left _ (List.mem_append_left _ (List.mem_append_right _ h)))))) gs_wsX30)
set_option maxRecDepth 20000 in
theorem gX11_init_X3_init_n34 : GoodIn wsX11_init (wsX3_init) := ggX11_init_X3_init
set_option maxRecDepth 100000 in
theorem ggX11_init_X5_init : GoodIn wsX11_init wsX5_init := goodIn_ca (b := wsX50) (goodIn_s _ [75, 2, 23, 76, 77, 78] [74, 3] (by decide +kernel) rfl (by decide +kernel)) (goodIn_sub (fun w h => List.mem_cons_of_mem _ (List.mem_append_left _ (List.mem_append_left _ (List.mem_append_left _ (List.mem_append_right _ h))))) gs_wsX50)
set_option maxRecDepth 20000 in
theorem gX11_init_X5_init_n54 : GoodIn wsX11_init (wsX5_init) := ggX11_init_X5_init
set_option maxRecDepth 100000 in
theorem ggX11_init_X9_init : GoodIn wsX11_init wsX9_init := goodIn_s _ [81, 2] [80, 3] (by decide +kernel) rfl (by decide +kernel)
set_option maxRecDepth 20000 in
theorem gX11_init_X9_init_n67 : GoodIn wsX11_init (wsX9_init) := ggX11_init_X9_init
set_option maxRecDepth 100000 in
theorem ggX11_init_X6_init : GoodIn wsX11_init wsX6_init := goodIn_ca (b := wsX60) (goodIn_s _ [84, 2, 23, 85] [83, 3] (by decide +kernel) rfl (by decide +kernel)) (goodIn_sub (fun w h => List.mem_cons_of_mem _ (List.mem_append_left _ (List.mem_append_right _ h))) gs_wsX60)
set_option maxRecDepth 20000 in
theorem gX11_init_X6_init_n72 : GoodIn wsX11_init (wsX6_init) := ggX11_init_X6_init
theorem edX11_init_0 : (decode cX11_init 0 = .ok (.aload_n 0, 1)) ∧ (decode cX11_init 1 = .ok (.invokespecial 3, 3)) ∧ (decode cX11_init 4 = .ok (.aload_n 0, 1)) ∧ (decode cX11_init 5 = .ok (.new 9, 3)) ∧ (decode cX11_init 8 = .ok (.dup, 1)) ∧ (decode cX11_init 9 = .ok (.invokespecial 11, 3)) ∧ (decode cX11_init 12 = .ok (.putfield 12, 3)) ∧ (decode cX11_init 15 = .ok (.aload_n 0, 1)) ∧ (decode cX11_init 16 = .ok (.new 18, 3)) ∧ (decode cX11_init 19 = .ok (.dup, 1)) ∧ (decode cX11_init 20 = .ok (.invokespecial 20, 3)) ∧ (decode cX11_init 23 = .ok (.putfield 21, 3)) ∧ (decode cX11_init 26 = .ok (.aload_n 0, 1)) ∧ (decode cX11_init 27 = .ok (.new 25, 3)) ∧ (decode cX11_init 30 = .ok (.dup, 1)) ∧ (decode cX11_init 31 = .ok (.invokespecial 27, 3)) := by decide +kernel
def dX11_init_0 := edX11_init_0.1
def dX11_init_1 := edX11_init_0.2.1
def dX11_init_4 := edX11_init_0.2.2.1
def dX11_init_5 := edX11_init_0.2.2.2.1
def dX11_init_8 := edX11_init_0.2.2.2.2.1
def dX11_init_9 := edX11_init_0.2.2.2.2.2.1
def dX11_init_12 := edX11_init_0.2.2.2.2.2.2.1
def dX11_init_15 := edX11_init_0.2.2.2.2.2.2.2.1
def dX11_init_16 := edX11_init_0.2.2.2.2.2.2.2.2.1
def dX11_init_19 := edX11_init_0.2.2.2.2.2.2.2.2.2.1
def dX11_init_20 := edX11_init_0.2.2.2.2.2.2.2.2.2.2.1
def dX11_init_23 := edX11_init_0.2.2.2.2.2.2.2.2.2.2.2.1
def dX11_init_26 := edX11_init_0.2.2.2.2.2.2.2.2.2.2.2.2.1
def dX11_init_27 := edX11_init_0.2.2.2.2.2.2.2.2.2.2.2.2.2.1
def dX11_init_30 := edX11_init_0.2.2.2.2.2.2.2.2.2.2.2.2.2.2.1
def dX11_init_31 := edX11_init_0.2.2.2.2.2.2.2.2.2.2.2.2.2.2.2
theorem edX11_init_34 : (decode cX11_init 34 = .ok (.putfield 28, 3)) ∧ (decode cX11_init 37 = .ok (.aload_n 0, 1)) ∧ (decode cX11_init 38 = .ok (.new 32, 3)) ∧ (decode cX11_init 41 = .ok (.dup, 1)) ∧ (decode cX11_init 42 = .ok (.invokespecial 34, 3)) ∧ (decode cX11_init 45 = .ok (.putfield 35, 3)) ∧ (decode cX11_init 48 = .ok (.aload_n 0, 1)) ∧ (decode cX11_init 49 = .ok (.new 18, 3)) ∧ (decode cX11_init 52 = .ok (.dup, 1)) ∧ (decode cX11_init 53 = .ok (.invokespecial 20, 3)) ∧ (decode cX11_init 56 = .ok (.putfield 39, 3)) ∧ (decode cX11_init 59 = .ok (.aload_n 0, 1)) ∧ (decode cX11_init 60 = .ok (.new 18, 3)) ∧ (decode cX11_init 63 = .ok (.dup, 1)) ∧ (decode cX11_init 64 = .ok (.invokespecial 20, 3)) ∧ (decode cX11_init 67 = .ok (.putfield 42, 3)) := by decide +kernel
def dX11_init_34 := edX11_init_34.1
def dX11_init_37 := edX11_init_34.2.1
def dX11_init_38 := edX11_init_34.2.2.1
def dX11_init_41 := edX11_init_34.2.2.2.1
def dX11_init_42 := edX11_init_34.2.2.2.2.1
def dX11_init_45 := edX11_init_34.2.2.2.2.2.1
def dX11_init_48 := edX11_init_34.2.2.2.2.2.2.1
def dX11_init_49 := edX11_init_34.2.2.2.2.2.2.2.1
def dX11_init_52 := edX11_init_34.2.2.2.2.2.2.2.2.1
def dX11_init_53 := edX11_init_34.2.2.2.2.2.2.2.2.2.1
def dX11_init_56 := edX11_init_34.2.2.2.2.2.2.2.2.2.2.1
def dX11_init_59 := edX11_init_34.2.2.2.2.2.2.2.2.2.2.2.1
def dX11_init_60 := edX11_init_34.2.2.2.2.2.2.2.2.2.2.2.2.1
def dX11_init_63 := edX11_init_34.2.2.2.2.2.2.2.2.2.2.2.2.2.1
def dX11_init_64 := edX11_init_34.2.2.2.2.2.2.2.2.2.2.2.2.2.2.1
def dX11_init_67 := edX11_init_34.2.2.2.2.2.2.2.2.2.2.2.2.2.2.2
theorem edX11_init_70 : (decode cX11_init 70 = .ok (.aload_n 0, 1)) ∧ (decode cX11_init 71 = .ok (.new 25, 3)) ∧ (decode cX11_init 74 = .ok (.dup, 1)) ∧ (decode cX11_init 75 = .ok (.invokespecial 27, 3)) ∧ (decode cX11_init 78 = .ok (.putfield 45, 3)) ∧ (decode cX11_init 81 = .ok (.aload_n 0, 1)) ∧ (decode cX11_init 82 = .ok (.bipush 6, 2)) ∧ (decode cX11_init 84 = .ok (.newarray .int, 2)) ∧ (decode cX11_init 86 = .ok (.putfield 48, 3)) ∧ (decode cX11_init 89 = .ok (.aload_n 0, 1)) ∧ (decode cX11_init 90 = .ok (.new 52, 3)) ∧ (decode cX11_init 93 = .ok (.dup, 1)) ∧ (decode cX11_init 94 = .ok (.invokespecial 54, 3)) ∧ (decode cX11_init 97 = .ok (.putfield 55, 3)) ∧ (decode cX11_init 100 = .ok (.aload_n 0, 1)) ∧ (decode cX11_init 101 = .ok (.iconst 4, 1)) := by decide +kernel
def dX11_init_70 := edX11_init_70.1
def dX11_init_71 := edX11_init_70.2.1
def dX11_init_74 := edX11_init_70.2.2.1
def dX11_init_75 := edX11_init_70.2.2.2.1
def dX11_init_78 := edX11_init_70.2.2.2.2.1
def dX11_init_81 := edX11_init_70.2.2.2.2.2.1
def dX11_init_82 := edX11_init_70.2.2.2.2.2.2.1
def dX11_init_84 := edX11_init_70.2.2.2.2.2.2.2.1
def dX11_init_86 := edX11_init_70.2.2.2.2.2.2.2.2.1
def dX11_init_89 := edX11_init_70.2.2.2.2.2.2.2.2.2.1
def dX11_init_90 := edX11_init_70.2.2.2.2.2.2.2.2.2.2.1
def dX11_init_93 := edX11_init_70.2.2.2.2.2.2.2.2.2.2.2.1
def dX11_init_94 := edX11_init_70.2.2.2.2.2.2.2.2.2.2.2.2.1
def dX11_init_97 := edX11_init_70.2.2.2.2.2.2.2.2.2.2.2.2.2.1
def dX11_init_100 := edX11_init_70.2.2.2.2.2.2.2.2.2.2.2.2.2.2.1
def dX11_init_101 := edX11_init_70.2.2.2.2.2.2.2.2.2.2.2.2.2.2.2
theorem edX11_init_102 : (decode cX11_init 102 = .ok (.anewarray 59, 3)) ∧ (decode cX11_init 105 = .ok (.putfield 61, 3)) ∧ (decode cX11_init 108 = .ok (.aload_n 0, 1)) ∧ (decode cX11_init 109 = .ok (.new 65, 3)) ∧ (decode cX11_init 112 = .ok (.dup, 1)) ∧ (decode cX11_init 113 = .ok (.invokespecial 67, 3)) ∧ (decode cX11_init 116 = .ok (.putfield 68, 3)) ∧ (decode cX11_init 119 = .ok (.iconst 0, 1)) ∧ (decode cX11_init 120 = .ok (.istore_n 1, 1)) ∧ (decode cX11_init 121 = .ok (.iload_n 1, 1)) ∧ (decode cX11_init 122 = .ok (.aload_n 0, 1)) ∧ (decode cX11_init 123 = .ok (.getfield 61, 3)) ∧ (decode cX11_init 126 = .ok (.arraylength, 1)) ∧ (decode cX11_init 127 = .ok (.if_icmp .ge 22, 3)) ∧ (decode cX11_init 130 = .ok (.aload_n 0, 1)) ∧ (decode cX11_init 131 = .ok (.getfield 61, 3)) := by decide +kernel
def dX11_init_102 := edX11_init_102.1
def dX11_init_105 := edX11_init_102.2.1
def dX11_init_108 := edX11_init_102.2.2.1
def dX11_init_109 := edX11_init_102.2.2.2.1
def dX11_init_112 := edX11_init_102.2.2.2.2.1
def dX11_init_113 := edX11_init_102.2.2.2.2.2.1
def dX11_init_116 := edX11_init_102.2.2.2.2.2.2.1
def dX11_init_119 := edX11_init_102.2.2.2.2.2.2.2.1
def dX11_init_120 := edX11_init_102.2.2.2.2.2.2.2.2.1
def dX11_init_121 := edX11_init_102.2.2.2.2.2.2.2.2.2.1
def dX11_init_122 := edX11_init_102.2.2.2.2.2.2.2.2.2.2.1
def dX11_init_123 := edX11_init_102.2.2.2.2.2.2.2.2.2.2.2.1
def dX11_init_126 := edX11_init_102.2.2.2.2.2.2.2.2.2.2.2.2.1
def dX11_init_127 := edX11_init_102.2.2.2.2.2.2.2.2.2.2.2.2.2.1
def dX11_init_130 := edX11_init_102.2.2.2.2.2.2.2.2.2.2.2.2.2.2.1
def dX11_init_131 := edX11_init_102.2.2.2.2.2.2.2.2.2.2.2.2.2.2.2
theorem edX11_init_134 : (decode cX11_init 134 = .ok (.iload_n 1, 1)) ∧ (decode cX11_init 135 = .ok (.new 59, 3)) ∧ (decode cX11_init 138 = .ok (.dup, 1)) ∧ (decode cX11_init 139 = .ok (.invokespecial 72, 3)) ∧ (decode cX11_init 142 = .ok (.aastore, 1)) ∧ (decode cX11_init 143 = .ok (.iinc 1 1, 3)) ∧ (decode cX11_init 146 = .ok (.goto (-25), 3)) ∧ (decode cX11_init 149 = .ok (.return_, 1)) := by decide +kernel
def dX11_init_134 := edX11_init_134.1
def dX11_init_135 := edX11_init_134.2.1
def dX11_init_138 := edX11_init_134.2.2.1
def dX11_init_139 := edX11_init_134.2.2.2.1
def dX11_init_142 := edX11_init_134.2.2.2.2.1
def dX11_init_143 := edX11_init_134.2.2.2.2.2.1
def dX11_init_146 := edX11_init_134.2.2.2.2.2.2.1
def dX11_init_149 := edX11_init_134.2.2.2.2.2.2.2
set_option maxRecDepth 100000 in
theorem ggX11_pump_X11_within : GoodIn wsX11_pump wsX11_within := goodIn_s _ [] [7] (by decide +kernel) rfl (by decide +kernel)
set_option maxRecDepth 20000 in
theorem gX11_pump_X11_within : GoodIn wsX11_pump (va_wsS RX11 73 yX11_within wsX11_within) := goodIn_app (goodIn_of _ (by decide +kernel)) ggX11_pump_X11_within
theorem edX11_pump_0 : (decode cX11_pump 0 = .ok (.iload_n 1, 1)) ∧ (decode cX11_pump 1 = .ok (.ifCond .eq 10, 3)) ∧ (decode cX11_pump 4 = .ok (.iload_n 1, 1)) ∧ (decode cX11_pump 5 = .ok (.iconst 1, 1)) ∧ (decode cX11_pump 6 = .ok (.if_icmp .eq 5, 3)) ∧ (decode cX11_pump 9 = .ok (.iconst (-1), 1)) ∧ (decode cX11_pump 10 = .ok (.ireturn, 1)) ∧ (decode cX11_pump 11 = .ok (.iload_n 2, 1)) ∧ (decode cX11_pump 12 = .ok (.iload_n 1, 1)) ∧ (decode cX11_pump 13 = .ok (.ifCond .ne 7, 3)) ∧ (decode cX11_pump 16 = .ok (.iconst 0, 1)) ∧ (decode cX11_pump 17 = .ok (.goto 4, 3)) ∧ (decode cX11_pump 20 = .ok (.iconst 1, 1)) ∧ (decode cX11_pump 21 = .ok (.sipush 1000, 3)) ∧ (decode cX11_pump 24 = .ok (.invokestatic 73, 3)) ∧ (decode cX11_pump 27 = .ok (.ifCond .ne 6, 3)) := by decide +kernel
def dX11_pump_0 := edX11_pump_0.1
def dX11_pump_1 := edX11_pump_0.2.1
def dX11_pump_4 := edX11_pump_0.2.2.1
def dX11_pump_5 := edX11_pump_0.2.2.2.1
def dX11_pump_6 := edX11_pump_0.2.2.2.2.1
def dX11_pump_9 := edX11_pump_0.2.2.2.2.2.1
def dX11_pump_10 := edX11_pump_0.2.2.2.2.2.2.1
def dX11_pump_11 := edX11_pump_0.2.2.2.2.2.2.2.1
def dX11_pump_12 := edX11_pump_0.2.2.2.2.2.2.2.2.1
def dX11_pump_13 := edX11_pump_0.2.2.2.2.2.2.2.2.2.1
def dX11_pump_16 := edX11_pump_0.2.2.2.2.2.2.2.2.2.2.1
def dX11_pump_17 := edX11_pump_0.2.2.2.2.2.2.2.2.2.2.2.1
def dX11_pump_20 := edX11_pump_0.2.2.2.2.2.2.2.2.2.2.2.2.1
def dX11_pump_21 := edX11_pump_0.2.2.2.2.2.2.2.2.2.2.2.2.2.1
def dX11_pump_24 := edX11_pump_0.2.2.2.2.2.2.2.2.2.2.2.2.2.2.1
def dX11_pump_27 := edX11_pump_0.2.2.2.2.2.2.2.2.2.2.2.2.2.2.2
theorem edX11_pump_30 : (decode cX11_pump 30 = .ok (.bipush (-2), 2)) ∧ (decode cX11_pump 32 = .ok (.ireturn, 1)) ∧ (decode cX11_pump 33 = .ok (.iload_n 1, 1)) ∧ (decode cX11_pump 34 = .ok (.ifCond .ne 13, 3)) ∧ (decode cX11_pump 37 = .ok (.aload_n 0, 1)) ∧ (decode cX11_pump 38 = .ok (.getfield 12, 3)) ∧ (decode cX11_pump 41 = .ok (.getfield 77, 3)) ∧ (decode cX11_pump 44 = .ok (.goto 10, 3)) ∧ (decode cX11_pump 47 = .ok (.aload_n 0, 1)) ∧ (decode cX11_pump 48 = .ok (.getfield 12, 3)) ∧ (decode cX11_pump 51 = .ok (.getfield 81, 3)) ∧ (decode cX11_pump 54 = .ok (.istore_n 3, 1)) ∧ (decode cX11_pump 55 = .ok (.iload_n 1, 1)) ∧ (decode cX11_pump 56 = .ok (.ifCond .ne 14, 3)) ∧ (decode cX11_pump 59 = .ok (.aload_n 0, 1)) ∧ (decode cX11_pump 60 = .ok (.getfield 12, 3)) := by decide +kernel
def dX11_pump_30 := edX11_pump_30.1
def dX11_pump_32 := edX11_pump_30.2.1
def dX11_pump_33 := edX11_pump_30.2.2.1
def dX11_pump_34 := edX11_pump_30.2.2.2.1
def dX11_pump_37 := edX11_pump_30.2.2.2.2.1
def dX11_pump_38 := edX11_pump_30.2.2.2.2.2.1
def dX11_pump_41 := edX11_pump_30.2.2.2.2.2.2.1
def dX11_pump_44 := edX11_pump_30.2.2.2.2.2.2.2.1
def dX11_pump_47 := edX11_pump_30.2.2.2.2.2.2.2.2.1
def dX11_pump_48 := edX11_pump_30.2.2.2.2.2.2.2.2.2.1
def dX11_pump_51 := edX11_pump_30.2.2.2.2.2.2.2.2.2.2.1
def dX11_pump_54 := edX11_pump_30.2.2.2.2.2.2.2.2.2.2.2.1
def dX11_pump_55 := edX11_pump_30.2.2.2.2.2.2.2.2.2.2.2.2.1
def dX11_pump_56 := edX11_pump_30.2.2.2.2.2.2.2.2.2.2.2.2.2.1
def dX11_pump_59 := edX11_pump_30.2.2.2.2.2.2.2.2.2.2.2.2.2.2.1
def dX11_pump_60 := edX11_pump_30.2.2.2.2.2.2.2.2.2.2.2.2.2.2.2
theorem edX11_pump_63 : (decode cX11_pump 63 = .ok (.iload_n 2, 1)) ∧ (decode cX11_pump 64 = .ok (.putfield 77, 3)) ∧ (decode cX11_pump 67 = .ok (.goto 11, 3)) ∧ (decode cX11_pump 70 = .ok (.aload_n 0, 1)) ∧ (decode cX11_pump 71 = .ok (.getfield 12, 3)) ∧ (decode cX11_pump 74 = .ok (.iload_n 2, 1)) ∧ (decode cX11_pump 75 = .ok (.putfield 81, 3)) ∧ (decode cX11_pump 78 = .ok (.iload_n 3, 1)) ∧ (decode cX11_pump 79 = .ok (.ireturn, 1)) := by decide +kernel
def dX11_pump_63 := edX11_pump_63.1
def dX11_pump_64 := edX11_pump_63.2.1
def dX11_pump_67 := edX11_pump_63.2.2.1
def dX11_pump_70 := edX11_pump_63.2.2.2.1
def dX11_pump_71 := edX11_pump_63.2.2.2.2.1
def dX11_pump_74 := edX11_pump_63.2.2.2.2.2.1
def dX11_pump_75 := edX11_pump_63.2.2.2.2.2.2.1
def dX11_pump_78 := edX11_pump_63.2.2.2.2.2.2.2.1
def dX11_pump_79 := edX11_pump_63.2.2.2.2.2.2.2.2
set_option maxRecDepth 100000 in
theorem ggX11_cylinder_X11_within : GoodIn wsX11_cylinder wsX11_within := goodIn_s _ [] [6] (by decide +kernel) rfl (by decide +kernel)
set_option maxRecDepth 20000 in
theorem gX11_cylinder_X11_within : GoodIn wsX11_cylinder (va_wsS RX11 73 yX11_within wsX11_within) := goodIn_app (goodIn_of _ (by decide +kernel)) ggX11_cylinder_X11_within
set_option maxRecDepth 100000 in
theorem ggX11_cylinder_X4_add : GoodIn wsX11_cylinder wsX4_add := goodIn_ca (b := wsX100) (goodIn_ca (b := wsX20) (goodIn_ca (b := wsX00) (goodIn_ca (b := wsX40) (goodIn_s _ [12, 13, 14, 15, 16, 17, 18, 19, 20, 21, 22, 23, 24, 26, 27, 29, 30, 31, 32, 33, 34, 35, 36, 37, 39, 40, 41, 43] [11, 25, 28, 38, 42] (by decide +kernel) rfl (by decide +kernel)) (goodIn_sub (fun w h => List.mem_cons_of_mem _ (List.mem_append_left _ (List.mem_append_left _ (List.mem_append_left _ (List.mem_append_right _ h))))) gs_wsX40)) (goodIn_sub (fun w h => List.mem_cons_of_mem _ (List.mem_append_left _ (List.mem_append_left _ (List.mem_append_right _ h)))) gs_wsX00)) (goodIn_sub (fun w h => List.mem_cons_of_mem _ (List.mem_append_left _ (List.mem_append_right _ h))) gs_wsX20)) (goodIn_sub (fun w h => List.mem_cons_of_mem _ (List.mem_append_right _ h)) gs_wsX100)
set_option maxRecDepth 20000 in
theorem gX11_cylinder_X4_add : GoodIn wsX11_cylinder (wsV RX11 84 RX4 yX4_add wsX4_add) := goodIn_app (goodIn_of _ (by decide +kernel)) ggX11_cylinder_X4_add
theorem edX11_cylinder_0 : (decode cX11_cylinder 0 = .ok (.iload_n 1, 1)) ∧ (decode cX11_cylinder 1 = .ok (.iconst 0, 1)) ∧ (decode cX11_cylinder 2 = .ok (.iconst 2, 1)) ∧ (decode cX11_cylinder 3 = .ok (.invokestatic 73, 3)) ∧ (decode cX11_cylinder 6 = .ok (.ifCond .eq 23, 3)) ∧ (decode cX11_cylinder 9 = .ok (.iload_n 2, 1)) ∧ (decode cX11_cylinder 10 = .ok (.iconst 1, 1)) ∧ (decode cX11_cylinder 11 = .ok (.bipush 100, 2)) ∧ (decode cX11_cylinder 13 = .ok (.invokestatic 73, 3)) ∧ (decode cX11_cylinder 16 = .ok (.ifCond .eq 13, 3)) ∧ (decode cX11_cylinder 19 = .ok (.iload_n 3, 1)) ∧ (decode cX11_cylinder 20 = .ok (.iconst 1, 1)) ∧ (decode cX11_cylinder 21 = .ok (.bipush 100, 2)) ∧ (decode cX11_cylinder 23 = .ok (.invokestatic 73, 3)) ∧ (decode cX11_cylinder 26 = .ok (.ifCond .ne 6, 3)) ∧ (decode cX11_cylinder 29 = .ok (.bipush (-2), 2)) := by decide +kernel
def dX11_cylinder_0 := edX11_cylinder_0.1
def dX11_cylinder_1 := edX11_cylinder_0.2.1
def dX11_cylinder_2 := edX11_cylinder_0.2.2.1
def dX11_cylinder_3 := edX11_cylinder_0.2.2.2.1
def dX11_cylinder_6 := edX11_cylinder_0.2.2.2.2.1
def dX11_cylinder_9 := edX11_cylinder_0.2.2.2.2.2.1
def dX11_cylinder_10 := edX11_cylinder_0.2.2.2.2.2.2.1
def dX11_cylinder_11 := edX11_cylinder_0.2.2.2.2.2.2.2.1
def dX11_cylinder_13 := edX11_cylinder_0.2.2.2.2.2.2.2.2.1
def dX11_cylinder_16 := edX11_cylinder_0.2.2.2.2.2.2.2.2.2.1
def dX11_cylinder_19 := edX11_cylinder_0.2.2.2.2.2.2.2.2.2.2.1
def dX11_cylinder_20 := edX11_cylinder_0.2.2.2.2.2.2.2.2.2.2.2.1
def dX11_cylinder_21 := edX11_cylinder_0.2.2.2.2.2.2.2.2.2.2.2.2.1
def dX11_cylinder_23 := edX11_cylinder_0.2.2.2.2.2.2.2.2.2.2.2.2.2.1
def dX11_cylinder_26 := edX11_cylinder_0.2.2.2.2.2.2.2.2.2.2.2.2.2.2.1
def dX11_cylinder_29 := edX11_cylinder_0.2.2.2.2.2.2.2.2.2.2.2.2.2.2.2
theorem edX11_cylinder_31 : (decode cX11_cylinder 31 = .ok (.ireturn, 1)) ∧ (decode cX11_cylinder 32 = .ok (.aload_n 0, 1)) ∧ (decode cX11_cylinder 33 = .ok (.getfield 12, 3)) ∧ (decode cX11_cylinder 36 = .ok (.iload_n 1, 1)) ∧ (decode cX11_cylinder 37 = .ok (.iload_n 2, 1)) ∧ (decode cX11_cylinder 38 = .ok (.iload_n 3, 1)) ∧ (decode cX11_cylinder 39 = .ok (.invokevirtual 84, 3)) ∧ (decode cX11_cylinder 42 = .ok (.ifCond .eq 15, 3)) ∧ (decode cX11_cylinder 45 = .ok (.aload_n 0, 1)) ∧ (decode cX11_cylinder 46 = .ok (.getfield 12, 3)) ∧ (decode cX11_cylinder 49 = .ok (.getfield 87, 3)) ∧ (decode cX11_cylinder 52 = .ok (.iconst 1, 1)) ∧ (decode cX11_cylinder 53 = .ok (.isub, 1)) ∧ (decode cX11_cylinder 54 = .ok (.goto 5, 3)) ∧ (decode cX11_cylinder 57 = .ok (.bipush (-4), 2)) ∧ (decode cX11_cylinder 59 = .ok (.ireturn, 1)) := by decide +kernel
def dX11_cylinder_31 := edX11_cylinder_31.1
def dX11_cylinder_32 := edX11_cylinder_31.2.1
def dX11_cylinder_33 := edX11_cylinder_31.2.2.1
def dX11_cylinder_36 := edX11_cylinder_31.2.2.2.1
def dX11_cylinder_37 := edX11_cylinder_31.2.2.2.2.1
def dX11_cylinder_38 := edX11_cylinder_31.2.2.2.2.2.1
def dX11_cylinder_39 := edX11_cylinder_31.2.2.2.2.2.2.1
def dX11_cylinder_42 := edX11_cylinder_31.2.2.2.2.2.2.2.1
def dX11_cylinder_45 := edX11_cylinder_31.2.2.2.2.2.2.2.2.1
def dX11_cylinder_46 := edX11_cylinder_31.2.2.2.2.2.2.2.2.2.1
def dX11_cylinder_49 := edX11_cylinder_31.2.2.2.2.2.2.2.2.2.2.1
def dX11_cylinder_52 := edX11_cylinder_31.2.2.2.2.2.2.2.2.2.2.2.1
def dX11_cylinder_53 := edX11_cylinder_31.2.2.2.2.2.2.2.2.2.2.2.2.1
def dX11_cylinder_54 := edX11_cylinder_31.2.2.2.2.2.2.2.2.2.2.2.2.2.1
def dX11_cylinder_57 := edX11_cylinder_31.2.2.2.2.2.2.2.2.2.2.2.2.2.2.1
def dX11_cylinder_59 := edX11_cylinder_31.2.2.2.2.2.2.2.2.2.2.2.2.2.2.2
set_option maxRecDepth 100000 in
theorem ggX11_rule_X4_at : GoodIn wsX11_rule wsX4_at := goodIn_ca (b := wsX40) (goodIn_s _ [8, 9] [7] (by decide +kernel) rfl (by decide +kernel)) (goodIn_sub (fun w h => List.mem_cons_of_mem _ (List.mem_append_left _ (List.mem_append_left _ (List.mem_append_left _ (List.mem_append_right _ h))))) gs_wsX40)
set_option maxRecDepth 20000 in
theorem gX11_rule_X4_at : GoodIn wsX11_rule (wsV RX11 90 RX4 yX4_at wsX4_at) := goodIn_app (goodIn_of _ (by decide +kernel)) ggX11_rule_X4_at
set_option maxRecDepth 100000 in
theorem ggX11_rule_X11_within : GoodIn wsX11_rule wsX11_within := goodIn_s _ [] [13] (by decide +kernel) rfl (by decide +kernel)
set_option maxRecDepth 20000 in
theorem gX11_rule_X11_within : GoodIn wsX11_rule (va_wsS RX11 73 yX11_within wsX11_within) := goodIn_app (goodIn_of _ (by decide +kernel)) ggX11_rule_X11_within
set_option maxRecDepth 100000 in
theorem ggX11_rule_X0_newCrack : GoodIn wsX11_rule wsX0_newCrack := goodIn_ca (b := wsX100) (goodIn_ca (b := wsX20) (goodIn_ca (b := wsX00) (goodIn_s _ [19] [18] (by decide +kernel) rfl (by decide +kernel)) (goodIn_sub (fun w h => List.mem_cons_of_mem _ (List.mem_append_left _ (List.mem_append_left _ (List.mem_append_right _ h)))) gs_wsX00)) (goodIn_sub (fun w h => List.mem_cons_of_mem _ (List.mem_append_left _ (List.mem_append_right _ h))) gs_wsX20)) (goodIn_sub (fun w h => List.mem_cons_of_mem _ (List.mem_append_right _ h)) gs_wsX100)
set_option maxRecDepth 20000 in
theorem gX11_rule_X0_newCrack : GoodIn wsX11_rule (wsV RX11 94 RX0 yX0_newCrack wsX0_newCrack) := goodIn_app (goodIn_of _ (by decide +kernel)) ggX11_rule_X0_newCrack
set_option maxRecDepth 20000 in
theorem gX11_rule_X0_newCrack_u94X2 : GoodIn wsX11_rule (va_wsU RX11 94 RX2 "OilPush$Cylinder" ⟨"OilPush$Cylinder", "newCrack", "(I)I"⟩ yX0_newCrack wsX0_newCrack) := goodIn_app (goodIn_of _ (by decide +kernel)) ggX11_rule_X0_newCrack
set_option maxRecDepth 20000 in
theorem gX11_rule_X0_newCrack_u94X10 : GoodIn wsX11_rule (va_wsU RX11 94 RX10 "OilPush$Cylinder" ⟨"OilPush$Cylinder", "newCrack", "(I)I"⟩ yX0_newCrack wsX0_newCrack) := goodIn_app (goodIn_of _ (by decide +kernel)) ggX11_rule_X0_newCrack
set_option maxRecDepth 100000 in
theorem ggX11_rule_X0_newFlow : GoodIn wsX11_rule wsX0_newFlow := goodIn_ca (b := wsX100) (goodIn_ca (b := wsX20) (goodIn_ca (b := wsX00) (goodIn_s _ [28] [27] (by decide +kernel) rfl (by decide +kernel)) (goodIn_sub (fun w h => List.mem_cons_of_mem _ (List.mem_append_left _ (List.mem_append_left _ (List.mem_append_right _ h)))) gs_wsX00)) (goodIn_sub (fun w h => List.mem_cons_of_mem _ (List.mem_append_left _ (List.mem_append_right _ h))) gs_wsX20)) (goodIn_sub (fun w h => List.mem_cons_of_mem _ (List.mem_append_right _ h)) gs_wsX100)
set_option maxRecDepth 20000 in
theorem gX11_rule_X0_newFlow : GoodIn wsX11_rule (wsV RX11 100 RX0 yX0_newFlow wsX0_newFlow) := goodIn_app (goodIn_of _ (by decide +kernel)) ggX11_rule_X0_newFlow
set_option maxRecDepth 20000 in
theorem gX11_rule_X0_newFlow_u100X2 : GoodIn wsX11_rule (va_wsU RX11 100 RX2 "OilPush$Cylinder" ⟨"OilPush$Cylinder", "newFlow", "(I)I"⟩ yX0_newFlow wsX0_newFlow) := goodIn_app (goodIn_of _ (by decide +kernel)) ggX11_rule_X0_newFlow
set_option maxRecDepth 20000 in
theorem gX11_rule_X0_newFlow_u100X10 : GoodIn wsX11_rule (va_wsU RX11 100 RX10 "OilPush$Cylinder" ⟨"OilPush$Cylinder", "newFlow", "(I)I"⟩ yX0_newFlow wsX0_newFlow) := goodIn_app (goodIn_of _ (by decide +kernel)) ggX11_rule_X0_newFlow
set_option maxRecDepth 100000 in
theorem ggX11_rule_X11_swap : GoodIn wsX11_rule wsX11_swap := goodIn_s _ [36, 37, 12, 39, 40] [35, 38, 41] (by decide +kernel) rfl (by decide +kernel)
set_option maxRecDepth 20000 in
theorem gX11_rule_X11_swap : GoodIn wsX11_rule (va_wsS RX11 106 yX11_swap wsX11_swap) := goodIn_app (goodIn_of _ (by decide +kernel)) ggX11_rule_X11_swap
theorem edX11_rule_0 : (decode cX11_rule 0 = .ok (.aload_n 0, 1)) ∧ (decode cX11_rule 1 = .ok (.getfield 12, 3)) ∧ (decode cX11_rule 4 = .ok (.iload_n 1, 1)) ∧ (decode cX11_rule 5 = .ok (.invokevirtual 90, 3)) ∧ (decode cX11_rule 8 = .ok (.astore 4, 2)) ∧ (decode cX11_rule 10 = .ok (.aload 4, 2)) ∧ (decode cX11_rule 12 = .ok (.ifnull 12, 3)) ∧ (decode cX11_rule 15 = .ok (.iload_n 2, 1)) ∧ (decode cX11_rule 16 = .ok (.iconst 0, 1)) ∧ (decode cX11_rule 17 = .ok (.iconst 2, 1)) ∧ (decode cX11_rule 18 = .ok (.invokestatic 73, 3)) ∧ (decode cX11_rule 21 = .ok (.ifCond .ne 5, 3)) ∧ (decode cX11_rule 24 = .ok (.iconst (-1), 1)) ∧ (decode cX11_rule 25 = .ok (.ireturn, 1)) ∧ (decode cX11_rule 26 = .ok (.iload_n 2, 1)) ∧ (decode cX11_rule 27 = .ok (.lookupswitch 71 #[(0, 25), (1, 48)], 25)) := by decide +kernel
def dX11_rule_0 := edX11_rule_0.1
def dX11_rule_1 := edX11_rule_0.2.1
def dX11_rule_4 := edX11_rule_0.2.2.1
def dX11_rule_5 := edX11_rule_0.2.2.2.1
def dX11_rule_8 := edX11_rule_0.2.2.2.2.1
def dX11_rule_10 := edX11_rule_0.2.2.2.2.2.1
def dX11_rule_12 := edX11_rule_0.2.2.2.2.2.2.1
def dX11_rule_15 := edX11_rule_0.2.2.2.2.2.2.2.1
def dX11_rule_16 := edX11_rule_0.2.2.2.2.2.2.2.2.1
def dX11_rule_17 := edX11_rule_0.2.2.2.2.2.2.2.2.2.1
def dX11_rule_18 := edX11_rule_0.2.2.2.2.2.2.2.2.2.2.1
def dX11_rule_21 := edX11_rule_0.2.2.2.2.2.2.2.2.2.2.2.1
def dX11_rule_24 := edX11_rule_0.2.2.2.2.2.2.2.2.2.2.2.2.1
def dX11_rule_25 := edX11_rule_0.2.2.2.2.2.2.2.2.2.2.2.2.2.1
def dX11_rule_26 := edX11_rule_0.2.2.2.2.2.2.2.2.2.2.2.2.2.2.1
def dX11_rule_27 := edX11_rule_0.2.2.2.2.2.2.2.2.2.2.2.2.2.2.2
theorem edX11_rule_52 : (decode cX11_rule 52 = .ok (.iload_n 3, 1)) ∧ (decode cX11_rule 53 = .ok (.iconst 0, 1)) ∧ (decode cX11_rule 54 = .ok (.sipush 500, 3)) ∧ (decode cX11_rule 57 = .ok (.invokestatic 73, 3)) ∧ (decode cX11_rule 60 = .ok (.ifCond .eq 12, 3)) ∧ (decode cX11_rule 63 = .ok (.aload 4, 2)) ∧ (decode cX11_rule 65 = .ok (.iload_n 3, 1)) ∧ (decode cX11_rule 66 = .ok (.invokevirtual 94, 3)) ∧ (decode cX11_rule 69 = .ok (.goto 5, 3)) ∧ (decode cX11_rule 72 = .ok (.bipush (-2), 2)) ∧ (decode cX11_rule 74 = .ok (.ireturn, 1)) ∧ (decode cX11_rule 75 = .ok (.iload_n 3, 1)) ∧ (decode cX11_rule 76 = .ok (.iconst 1, 1)) ∧ (decode cX11_rule 77 = .ok (.sipush 1000, 3)) ∧ (decode cX11_rule 80 = .ok (.invokestatic 73, 3)) ∧ (decode cX11_rule 83 = .ok (.ifCond .eq 12, 3)) := by decide +kernel
def dX11_rule_52 := edX11_rule_52.1
def dX11_rule_53 := edX11_rule_52.2.1
def dX11_rule_54 := edX11_rule_52.2.2.1
def dX11_rule_57 := edX11_rule_52.2.2.2.1
def dX11_rule_60 := edX11_rule_52.2.2.2.2.1
def dX11_rule_63 := edX11_rule_52.2.2.2.2.2.1
def dX11_rule_65 := edX11_rule_52.2.2.2.2.2.2.1
def dX11_rule_66 := edX11_rule_52.2.2.2.2.2.2.2.1
def dX11_rule_69 := edX11_rule_52.2.2.2.2.2.2.2.2.1
def dX11_rule_72 := edX11_rule_52.2.2.2.2.2.2.2.2.2.1
def dX11_rule_74 := edX11_rule_52.2.2.2.2.2.2.2.2.2.2.1
def dX11_rule_75 := edX11_rule_52.2.2.2.2.2.2.2.2.2.2.2.1
def dX11_rule_76 := edX11_rule_52.2.2.2.2.2.2.2.2.2.2.2.2.1
def dX11_rule_77 := edX11_rule_52.2.2.2.2.2.2.2.2.2.2.2.2.2.1
def dX11_rule_80 := edX11_rule_52.2.2.2.2.2.2.2.2.2.2.2.2.2.2.1
def dX11_rule_83 := edX11_rule_52.2.2.2.2.2.2.2.2.2.2.2.2.2.2.2
theorem edX11_rule_86 : (decode cX11_rule 86 = .ok (.aload 4, 2)) ∧ (decode cX11_rule 88 = .ok (.iload_n 3, 1)) ∧ (decode cX11_rule 89 = .ok (.invokevirtual 100, 3)) ∧ (decode cX11_rule 92 = .ok (.goto 5, 3)) ∧ (decode cX11_rule 95 = .ok (.bipush (-2), 2)) ∧ (decode cX11_rule 97 = .ok (.ireturn, 1)) ∧ (decode cX11_rule 98 = .ok (.iload_n 3, 1)) ∧ (decode cX11_rule 99 = .ok (.iconst 0, 1)) ∧ (decode cX11_rule 100 = .ok (.bipush 100, 2)) ∧ (decode cX11_rule 102 = .ok (.invokestatic 73, 3)) ∧ (decode cX11_rule 105 = .ok (.ifCond .eq 18, 3)) ∧ (decode cX11_rule 108 = .ok (.aload_n 0, 1)) ∧ (decode cX11_rule 109 = .ok (.getfield 12, 3)) ∧ (decode cX11_rule 112 = .ok (.getfield 103, 3)) ∧ (decode cX11_rule 115 = .ok (.iload_n 1, 1)) ∧ (decode cX11_rule 116 = .ok (.iload_n 3, 1)) := by decide +kernel
def dX11_rule_86 := edX11_rule_86.1
def dX11_rule_88 := edX11_rule_86.2.1
def dX11_rule_89 := edX11_rule_86.2.2.1
def dX11_rule_92 := edX11_rule_86.2.2.2.1
def dX11_rule_95 := edX11_rule_86.2.2.2.2.1
def dX11_rule_97 := edX11_rule_86.2.2.2.2.2.1
def dX11_rule_98 := edX11_rule_86.2.2.2.2.2.2.1
def dX11_rule_99 := edX11_rule_86.2.2.2.2.2.2.2.1
def dX11_rule_100 := edX11_rule_86.2.2.2.2.2.2.2.2.1
def dX11_rule_102 := edX11_rule_86.2.2.2.2.2.2.2.2.2.1
def dX11_rule_105 := edX11_rule_86.2.2.2.2.2.2.2.2.2.2.1
def dX11_rule_108 := edX11_rule_86.2.2.2.2.2.2.2.2.2.2.2.1
def dX11_rule_109 := edX11_rule_86.2.2.2.2.2.2.2.2.2.2.2.2.1
def dX11_rule_112 := edX11_rule_86.2.2.2.2.2.2.2.2.2.2.2.2.2.1
def dX11_rule_115 := edX11_rule_86.2.2.2.2.2.2.2.2.2.2.2.2.2.2.1
def dX11_rule_116 := edX11_rule_86.2.2.2.2.2.2.2.2.2.2.2.2.2.2.2
theorem edX11_rule_117 : (decode cX11_rule 117 = .ok (.invokestatic 106, 3)) ∧ (decode cX11_rule 120 = .ok (.goto 5, 3)) ∧ (decode cX11_rule 123 = .ok (.bipush (-2), 2)) ∧ (decode cX11_rule 125 = .ok (.ireturn, 1)) := by decide +kernel
def dX11_rule_117 := edX11_rule_117.1
def dX11_rule_120 := edX11_rule_117.2.1
def dX11_rule_123 := edX11_rule_117.2.2.1
def dX11_rule_125 := edX11_rule_117.2.2.2
set_option maxRecDepth 100000 in
theorem ggX11_loads_X4_at : GoodIn wsX11_loads wsX4_at := goodIn_ca (b := wsX40) (goodIn_s _ [10, 11] [9] (by decide +kernel) rfl (by decide +kernel)) (goodIn_sub (fun w h => List.mem_cons_of_mem _ (List.mem_append_left _ (List.mem_append_left _ (List.mem_append_left _ (List.mem_append_right _ h))))) gs_wsX40)
set_option maxRecDepth 20000 in
theorem gX11_loads_X4_at : GoodIn wsX11_loads (wsV RX11 90 RX4 yX4_at wsX4_at) := goodIn_app (goodIn_of _ (by decide +kernel)) ggX11_loads_X4_at
set_option maxRecDepth 100000 in
theorem ggX11_loads_X11_sheetAt : GoodIn wsX11_loads wsX11_sheetAt := goodIn_ca (b := wsX110) (goodIn_s _ [17] [16] (by decide +kernel) rfl (by decide +kernel)) (goodIn_sub (fun w h => List.mem_cons_of_mem _ (List.mem_append_left _ (List.mem_append_left _ (List.mem_append_left _ (List.mem_append_left _ (List.mem_append_left _ (List.mem_append_right _ h))))))) gs_wsX110)
set_option maxRecDepth 20000 in
theorem gX11_loads_X11_sheetAt : GoodIn wsX11_loads (wsV RX11 113 RX11 yX11_sheetAt wsX11_sheetAt) := goodIn_app (goodIn_of _ (by decide +kernel)) ggX11_loads_X11_sheetAt
set_option maxRecDepth 100000 in
theorem ggX11_loads_X11_isLane : GoodIn wsX11_loads wsX11_isLane := goodIn_s _ [21, 22, 15] [20, 23] (by decide +kernel) rfl (by decide +kernel)
set_option maxRecDepth 20000 in
theorem gX11_loads_X11_isLane : GoodIn wsX11_loads (va_wsS RX11 117 yX11_isLane wsX11_isLane) := goodIn_app (goodIn_of _ (by decide +kernel)) ggX11_loads_X11_isLane
set_option maxRecDepth 100000 in
theorem ggX11_loads_X6_faultTakenAs : GoodIn wsX11_loads wsX6_faultTakenAs := goodIn_ca (b := wsX60) (goodIn_s _ [29, 30] [28] (by decide +kernel) rfl (by decide +kernel)) (goodIn_sub (fun w h => List.mem_cons_of_mem _ (List.mem_append_left _ (List.mem_append_left _ (List.mem_append_left _ (List.mem_append_left _ (List.mem_append_right _ h)))))) gs_wsX60)
set_option maxRecDepth 20000 in
theorem gX11_loads_X6_faultTakenAs : GoodIn wsX11_loads (wsV RX11 121 RX6 yX6_faultTakenAs wsX6_faultTakenAs) := goodIn_app (goodIn_of _ (by decide +kernel)) ggX11_loads_X6_faultTakenAs
set_option maxRecDepth 100000 in
theorem ggX11_loads_X11_faulted : GoodIn wsX11_loads wsX11_faulted := goodIn_ca (b := wsX110) (goodIn_s _ [1] [34] (by decide +kernel) rfl (by decide +kernel)) (goodIn_sub (fun w h => List.mem_cons_of_mem _ (List.mem_append_left _ (List.mem_append_left _ (List.mem_append_left _ (List.mem_append_left _ (List.mem_append_left _ (List.mem_append_right _ h))))))) gs_wsX110)
set_option maxRecDepth 20000 in
theorem gX11_loads_X11_faulted : GoodIn wsX11_loads (wsV RX11 124 RX11 yX11_faulted wsX11_faulted) := goodIn_app (goodIn_of _ (by decide +kernel)) ggX11_loads_X11_faulted
set_option maxRecDepth 100000 in
theorem ggX11_loads_X6_holds : GoodIn wsX11_loads wsX6_holds := goodIn_ca (b := wsX60) (goodIn_s _ [39] [38] (by decide +kernel) rfl (by decide +kernel)) (goodIn_sub (fun w h => List.mem_cons_of_mem _ (List.mem_append_left _ (List.mem_append_left _ (List.mem_append_left _ (List.mem_append_left _ (List.mem_append_right _ h)))))) gs_wsX60)
set_option maxRecDepth 20000 in
theorem gX11_loads_X6_holds : GoodIn wsX11_loads (wsV RX11 127 RX6 yX6_holds wsX6_holds) := goodIn_app (goodIn_of _ (by decide +kernel)) ggX11_loads_X6_holds
set_option maxRecDepth 100000 in
theorem ggX11_loads_X11_within : GoodIn wsX11_loads wsX11_within := goodIn_s _ [] [23] (by decide +kernel) rfl (by decide +kernel)
set_option maxRecDepth 20000 in
theorem gX11_loads_X11_within : GoodIn wsX11_loads (va_wsS RX11 73 yX11_within wsX11_within) := goodIn_app (goodIn_of _ (by decide +kernel)) ggX11_loads_X11_within
set_option maxRecDepth 100000 in
theorem ggX11_loads_X6_areAllWithin : GoodIn wsX11_loads wsX6_areAllWithin := goodIn_ca (b := wsX60) (goodIn_s _ [44, 45, 15, 22] [43, 46, 23] (by decide +kernel) rfl (by decide +kernel)) (goodIn_sub (fun w h => List.mem_cons_of_mem _ (List.mem_append_left _ (List.mem_append_left _ (List.mem_append_left _ (List.mem_append_left _ (List.mem_append_right _ h)))))) gs_wsX60)
set_option maxRecDepth 20000 in
theorem gX11_loads_X6_areAllWithin : GoodIn wsX11_loads (wsV RX11 132 RX6 yX6_areAllWithin wsX6_areAllWithin) := goodIn_app (goodIn_of _ (by decide +kernel)) ggX11_loads_X6_areAllWithin
set_option maxRecDepth 100000 in
theorem ggX11_loads_X0_newLoads : GoodIn wsX11_loads wsX0_newLoads := goodIn_ca (b := wsX100) (goodIn_ca (b := wsX20) (goodIn_ca (b := wsX00) (goodIn_s _ [52, 53, 45, 15, 54] [51, 46, 55] (by decide +kernel) rfl (by decide +kernel)) (goodIn_sub (fun w h => List.mem_cons_of_mem _ (List.mem_append_left _ (List.mem_append_left _ (List.mem_append_right _ h)))) gs_wsX00)) (goodIn_sub (fun w h => List.mem_cons_of_mem _ (List.mem_append_left _ (List.mem_append_right _ h))) gs_wsX20)) (goodIn_sub (fun w h => List.mem_cons_of_mem _ (List.mem_append_right _ h)) gs_wsX100)
set_option maxRecDepth 20000 in
theorem gX11_loads_X0_newLoads : GoodIn wsX11_loads (wsV RX11 138 RX0 yX0_newLoads wsX0_newLoads) := goodIn_app (goodIn_of _ (by decide +kernel)) ggX11_loads_X0_newLoads
set_option maxRecDepth 20000 in
theorem gX11_loads_X0_newLoads_u138X2 : GoodIn wsX11_loads (va_wsU RX11 138 RX2 "OilPush$Cylinder" ⟨"OilPush$Cylinder", "newLoads", "([III)V"⟩ yX0_newLoads wsX0_newLoads) := goodIn_app (goodIn_of _ (by decide +kernel)) ggX11_loads_X0_newLoads
set_option maxRecDepth 20000 in
theorem gX11_loads_X0_newLoads_u138X10 : GoodIn wsX11_loads (va_wsU RX11 138 RX10 "OilPush$Cylinder" ⟨"OilPush$Cylinder", "newLoads", "([III)V"⟩ yX0_newLoads wsX0_newLoads) := goodIn_app (goodIn_of _ (by decide +kernel)) ggX11_loads_X0_newLoads
theorem edX11_loads_0 : (decode cX11_loads 0 = .ok (.aload_n 0, 1)) ∧ (decode cX11_loads 1 = .ok (.iconst 0, 1)) ∧ (decode cX11_loads 2 = .ok (.putfield 110, 3)) ∧ (decode cX11_loads 5 = .ok (.aload_n 0, 1)) ∧ (decode cX11_loads 6 = .ok (.getfield 12, 3)) ∧ (decode cX11_loads 9 = .ok (.iload_n 1, 1)) ∧ (decode cX11_loads 10 = .ok (.invokevirtual 90, 3)) ∧ (decode cX11_loads 13 = .ok (.astore 6, 2)) ∧ (decode cX11_loads 15 = .ok (.aload_n 0, 1)) ∧ (decode cX11_loads 16 = .ok (.iload_n 2, 1)) ∧ (decode cX11_loads 17 = .ok (.invokevirtual 113, 3)) ∧ (decode cX11_loads 20 = .ok (.astore 7, 2)) ∧ (decode cX11_loads 22 = .ok (.aload 6, 2)) ∧ (decode cX11_loads 24 = .ok (.ifnull 8, 3)) ∧ (decode cX11_loads 27 = .ok (.aload 7, 2)) ∧ (decode cX11_loads 29 = .ok (.ifnonnull 5, 3)) := by decide +kernel
def dX11_loads_0 := edX11_loads_0.1
def dX11_loads_1 := edX11_loads_0.2.1
def dX11_loads_2 := edX11_loads_0.2.2.1
def dX11_loads_5 := edX11_loads_0.2.2.2.1
def dX11_loads_6 := edX11_loads_0.2.2.2.2.1
def dX11_loads_9 := edX11_loads_0.2.2.2.2.2.1
def dX11_loads_10 := edX11_loads_0.2.2.2.2.2.2.1
def dX11_loads_13 := edX11_loads_0.2.2.2.2.2.2.2.1
def dX11_loads_15 := edX11_loads_0.2.2.2.2.2.2.2.2.1
def dX11_loads_16 := edX11_loads_0.2.2.2.2.2.2.2.2.2.1
def dX11_loads_17 := edX11_loads_0.2.2.2.2.2.2.2.2.2.2.1
def dX11_loads_20 := edX11_loads_0.2.2.2.2.2.2.2.2.2.2.2.1
def dX11_loads_22 := edX11_loads_0.2.2.2.2.2.2.2.2.2.2.2.2.1
def dX11_loads_24 := edX11_loads_0.2.2.2.2.2.2.2.2.2.2.2.2.2.1
def dX11_loads_27 := edX11_loads_0.2.2.2.2.2.2.2.2.2.2.2.2.2.2.1
def dX11_loads_29 := edX11_loads_0.2.2.2.2.2.2.2.2.2.2.2.2.2.2.2
