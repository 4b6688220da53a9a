set_option maxRecDepth 20000 in
theorem gX11_copy_X6_holds : GoodIn wsX11_copy (wsV RX11 127 RX6 yX6_holds wsX6_holds) := goodIn_app (goodIn_of _ (by decide +kernel)) ggX11_copy_X6_holds
theorem edX11_copy_0 : (decode cX11_copy 0 = .ok (.aload_n 0, 1)) ∧ (decode cX11_copy 1 = .ok (.iconst 0, 1)) ∧ (decode cX11_copy 2 = .ok (.putfield 110, 3)) ∧ (decode cX11_copy 5 = .ok (.aload_n 0, 1)) ∧ (decode cX11_copy 6 = .ok (.iload_n 1, 1)) ∧ (decode cX11_copy 7 = .ok (.invokevirtual 113, 3)) ∧ (decode cX11_copy 10 = .ok (.astore 6, 2)) ∧ (decode cX11_copy 12 = .ok (.aload_n 0, 1)) ∧ (decode cX11_copy 13 = .ok (.iload_n 3, 1)) ∧ (decode cX11_copy 14 = .ok (.invokevirtual 113, 3)) ∧ (decode cX11_copy 17 = .ok (.astore 7, 2)) ∧ (decode cX11_copy 19 = .ok (.aload 6, 2)) ∧ (decode cX11_copy 21 = .ok (.ifnull 8, 3)) ∧ (decode cX11_copy 24 = .ok (.aload 7, 2)) ∧ (decode cX11_copy 26 = .ok (.ifnonnull 5, 3)) ∧ (decode cX11_copy 29 = .ok (.iconst (-1), 1)) := by decide +kernel
def dX11_copy_0 := edX11_copy_0.1
def dX11_copy_1 := edX11_copy_0.2.1
def dX11_copy_2 := edX11_copy_0.2.2.1
def dX11_copy_5 := edX11_copy_0.2.2.2.1
def dX11_copy_6 := edX11_copy_0.2.2.2.2.1
def dX11_copy_7 := edX11_copy_0.2.2.2.2.2.1
def dX11_copy_10 := edX11_copy_0.2.2.2.2.2.2.1
def dX11_copy_12 := edX11_copy_0.2.2.2.2.2.2.2.1
def dX11_copy_13 := edX11_copy_0.2.2.2.2.2.2.2.2.1
def dX11_copy_14 := edX11_copy_0.2.2.2.2.2.2.2.2.2.1
def dX11_copy_17 := edX11_copy_0.2.2.2.2.2.2.2.2.2.2.1
def dX11_copy_19 := edX11_copy_0.2.2.2.2.2.2.2.2.2.2.2.1
def dX11_copy_21 := edX11_copy_0.2.2.2.2.2.2.2.2.2.2.2.2.1
def dX11_copy_24 := edX11_copy_0.2.2.2.2.2.2.2.2.2.2.2.2.2.1
def dX11_copy_26 := edX11_copy_0.2.2.2.2.2.2.2.2.2.2.2.2.2.2.1
def dX11_copy_29 := edX11_copy_0.2.2.2.2.2.2.2.2.2.2.2.2.2.2.2
theorem edX11_copy_30 : (decode cX11_copy 30 = .ok (.ireturn, 1)) ∧ (decode cX11_copy 31 = .ok (.aload 6, 2)) ∧ (decode cX11_copy 33 = .ok (.getfield 277, 3)) ∧ (decode cX11_copy 36 = .ok (.ifCond .eq 11, 3)) ∧ (decode cX11_copy 39 = .ok (.aload 7, 2)) ∧ (decode cX11_copy 41 = .ok (.getfield 277, 3)) ∧ (decode cX11_copy 44 = .ok (.ifCond .ne 9, 3)) ∧ (decode cX11_copy 47 = .ok (.aload_n 0, 1)) ∧ (decode cX11_copy 48 = .ok (.iconst 1, 1)) ∧ (decode cX11_copy 49 = .ok (.invokevirtual 124, 3)) ∧ (decode cX11_copy 52 = .ok (.ireturn, 1)) ∧ (decode cX11_copy 53 = .ok (.aload 6, 2)) ∧ (decode cX11_copy 55 = .ok (.getfield 283, 3)) ∧ (decode cX11_copy 58 = .ok (.aload 7, 2)) ∧ (decode cX11_copy 60 = .ok (.getfield 283, 3)) ∧ (decode cX11_copy 63 = .ok (.if_icmp .eq 9, 3)) := by decide +kernel
def dX11_copy_30 := edX11_copy_30.1
def dX11_copy_31 := edX11_copy_30.2.1
def dX11_copy_33 := edX11_copy_30.2.2.1
def dX11_copy_36 := edX11_copy_30.2.2.2.1
def dX11_copy_39 := edX11_copy_30.2.2.2.2.1
def dX11_copy_41 := edX11_copy_30.2.2.2.2.2.1
def dX11_copy_44 := edX11_copy_30.2.2.2.2.2.2.1
def dX11_copy_47 := edX11_copy_30.2.2.2.2.2.2.2.1
def dX11_copy_48 := edX11_copy_30.2.2.2.2.2.2.2.2.1
def dX11_copy_49 := edX11_copy_30.2.2.2.2.2.2.2.2.2.1
def dX11_copy_52 := edX11_copy_30.2.2.2.2.2.2.2.2.2.2.1
def dX11_copy_53 := edX11_copy_30.2.2.2.2.2.2.2.2.2.2.2.1
def dX11_copy_55 := edX11_copy_30.2.2.2.2.2.2.2.2.2.2.2.2.1
def dX11_copy_58 := edX11_copy_30.2.2.2.2.2.2.2.2.2.2.2.2.2.1
def dX11_copy_60 := edX11_copy_30.2.2.2.2.2.2.2.2.2.2.2.2.2.2.1
def dX11_copy_63 := edX11_copy_30.2.2.2.2.2.2.2.2.2.2.2.2.2.2.2
theorem edX11_copy_66 : (decode cX11_copy 66 = .ok (.aload_n 0, 1)) ∧ (decode cX11_copy 67 = .ok (.iconst 2, 1)) ∧ (decode cX11_copy 68 = .ok (.invokevirtual 124, 3)) ∧ (decode cX11_copy 71 = .ok (.ireturn, 1)) ∧ (decode cX11_copy 72 = .ok (.aload 6, 2)) ∧ (decode cX11_copy 74 = .ok (.iload_n 2, 1)) ∧ (decode cX11_copy 75 = .ok (.iload 5, 2)) ∧ (decode cX11_copy 77 = .ok (.invokevirtual 127, 3)) ∧ (decode cX11_copy 80 = .ok (.ifCond .eq 15, 3)) ∧ (decode cX11_copy 83 = .ok (.aload 7, 2)) ∧ (decode cX11_copy 85 = .ok (.iload 4, 2)) ∧ (decode cX11_copy 87 = .ok (.iload 5, 2)) ∧ (decode cX11_copy 89 = .ok (.invokevirtual 127, 3)) ∧ (decode cX11_copy 92 = .ok (.ifCond .ne 9, 3)) ∧ (decode cX11_copy 95 = .ok (.aload_n 0, 1)) ∧ (decode cX11_copy 96 = .ok (.iconst 3, 1)) := by decide +kernel
def dX11_copy_66 := edX11_copy_66.1
def dX11_copy_67 := edX11_copy_66.2.1
def dX11_copy_68 := edX11_copy_66.2.2.1
def dX11_copy_71 := edX11_copy_66.2.2.2.1
def dX11_copy_72 := edX11_copy_66.2.2.2.2.1
def dX11_copy_74 := edX11_copy_66.2.2.2.2.2.1
def dX11_copy_75 := edX11_copy_66.2.2.2.2.2.2.1
def dX11_copy_77 := edX11_copy_66.2.2.2.2.2.2.2.1
def dX11_copy_80 := edX11_copy_66.2.2.2.2.2.2.2.2.1
def dX11_copy_83 := edX11_copy_66.2.2.2.2.2.2.2.2.2.1
def dX11_copy_85 := edX11_copy_66.2.2.2.2.2.2.2.2.2.2.1
def dX11_copy_87 := edX11_copy_66.2.2.2.2.2.2.2.2.2.2.2.1
def dX11_copy_89 := edX11_copy_66.2.2.2.2.2.2.2.2.2.2.2.2.1
def dX11_copy_92 := edX11_copy_66.2.2.2.2.2.2.2.2.2.2.2.2.2.1
def dX11_copy_95 := edX11_copy_66.2.2.2.2.2.2.2.2.2.2.2.2.2.2.1
def dX11_copy_96 := edX11_copy_66.2.2.2.2.2.2.2.2.2.2.2.2.2.2.2
theorem edX11_copy_97 : (decode cX11_copy 97 = .ok (.invokevirtual 124, 3)) ∧ (decode cX11_copy 100 = .ok (.ireturn, 1)) ∧ (decode cX11_copy 101 = .ok (.aload 6, 2)) ∧ (decode cX11_copy 103 = .ok (.getfield 135, 3)) ∧ (decode cX11_copy 106 = .ok (.iload_n 2, 1)) ∧ (decode cX11_copy 107 = .ok (.aload 7, 2)) ∧ (decode cX11_copy 109 = .ok (.getfield 135, 3)) ∧ (decode cX11_copy 112 = .ok (.iload 4, 2)) ∧ (decode cX11_copy 114 = .ok (.iload 5, 2)) ∧ (decode cX11_copy 116 = .ok (.invokestatic 286, 3)) ∧ (decode cX11_copy 119 = .ok (.iload 5, 2)) ∧ (decode cX11_copy 121 = .ok (.ireturn, 1)) := by decide +kernel
def dX11_copy_97 := edX11_copy_97.1
def dX11_copy_100 := edX11_copy_97.2.1
def dX11_copy_101 := edX11_copy_97.2.2.1
def dX11_copy_103 := edX11_copy_97.2.2.2.1
def dX11_copy_106 := edX11_copy_97.2.2.2.2.1
def dX11_copy_107 := edX11_copy_97.2.2.2.2.2.1
def dX11_copy_109 := edX11_copy_97.2.2.2.2.2.2.1
def dX11_copy_112 := edX11_copy_97.2.2.2.2.2.2.2.1
def dX11_copy_114 := edX11_copy_97.2.2.2.2.2.2.2.2.1
def dX11_copy_116 := edX11_copy_97.2.2.2.2.2.2.2.2.2.1
def dX11_copy_119 := edX11_copy_97.2.2.2.2.2.2.2.2.2.2.1
def dX11_copy_121 := edX11_copy_97.2.2.2.2.2.2.2.2.2.2.2
set_option maxRecDepth 100000 in
theorem ggX11_tell_X4_at : GoodIn wsX11_tell wsX4_at := goodIn_ca (b := wsX40) (goodIn_s _ [10, 11] [9] (by decide +kernel) rfl (by decide +kernel)) (goodIn_sub (fun w h => List.mem_cons_of_mem _ (List.mem_append_left _ (List.mem_append_right _ h))) gs_wsX40)
set_option maxRecDepth 20000 in
theorem gX11_tell_X4_at : GoodIn wsX11_tell (wsV RX11 90 RX4 yX4_at wsX4_at) := goodIn_app (goodIn_of _ (by decide +kernel)) ggX11_tell_X4_at
set_option maxRecDepth 100000 in
theorem ggX11_tell_X11_get : GoodIn wsX11_tell wsX11_get := goodIn_s _ [] [15] (by decide +kernel) rfl (by decide +kernel)
set_option maxRecDepth 20000 in
theorem gX11_tell_X11_get : GoodIn wsX11_tell (va_wsS RX11 181 yX11_get wsX11_get) := goodIn_app (goodIn_of _ (by decide +kernel)) ggX11_tell_X11_get
set_option maxRecDepth 100000 in
theorem ggX11_tell_X0_toldBy : GoodIn wsX11_tell wsX0_toldBy := goodIn_ca (b := wsX90) (goodIn_s _ [21, 22, 23, 19, 25, 26, 27, 28, 30, 31, 32, 33, 34] [20, 24, 29] (by decide +kernel) rfl (by decide +kernel)) (goodIn_sub (fun w h => List.mem_cons_of_mem _ (List.mem_append_right _ h)) gs_wsX90)
set_option maxRecDepth 20000 in
theorem gX11_tell_X0_toldBy : GoodIn wsX11_tell (wsV RX11 292 RX0 yX0_toldBy wsX0_toldBy) := goodIn_app (goodIn_of _ (by decide +kernel)) ggX11_tell_X0_toldBy
set_option maxRecDepth 100000 in
theorem ggX11_tell_X2_toldBy : GoodIn wsX11_tell wsX2_toldBy := goodIn_ca (b := wsX90) (goodIn_s _ [42, 43, 26, 27, 28, 30, 44, 45, 46, 22, 19, 25, 47] [41, 29, 24] (by decide +kernel) rfl (by decide +kernel)) (goodIn_sub (fun w h => List.mem_cons_of_mem _ (List.mem_append_right _ h)) gs_wsX90)
set_option maxRecDepth 20000 in
theorem gX11_tell_X2_toldBy_u292X2 : GoodIn wsX11_tell (va_wsO RX11 292 RX2 "OilPush$Cylinder" ⟨"OilPush$Cylinder", "toldBy", "(LOilPush$Trace;I)I"⟩ yX2_toldBy wsX2_toldBy) := goodIn_app (goodIn_of _ (by decide +kernel)) ggX11_tell_X2_toldBy
set_option maxRecDepth 100000 in
theorem ggX11_tell_X10_toldBy : GoodIn wsX11_tell wsX10_toldBy := goodIn_ca (b := wsX90) (goodIn_s _ [52, 26, 27, 28, 30, 53, 54, 55, 22, 19, 25] [51, 29, 24] (by decide +kernel) rfl (by decide +kernel)) (goodIn_sub (fun w h => List.mem_cons_of_mem _ (List.mem_append_right _ h)) gs_wsX90)
set_option maxRecDepth 20000 in
theorem gX11_tell_X10_toldBy_u292X10 : GoodIn wsX11_tell (va_wsO RX11 292 RX10 "OilPush$Cylinder" ⟨"OilPush$Cylinder", "toldBy", "(LOilPush$Trace;I)I"⟩ yX10_toldBy wsX10_toldBy) := goodIn_app (goodIn_of _ (by decide +kernel)) ggX11_tell_X10_toldBy
theorem edX11_tell_0 : (decode cX11_tell 0 = .ok (.aload_n 0, 1)) ∧ (decode cX11_tell 1 = .ok (.getfield 12, 3)) ∧ (decode cX11_tell 4 = .ok (.iload_n 1, 1)) ∧ (decode cX11_tell 5 = .ok (.invokevirtual 90, 3)) ∧ (decode cX11_tell 8 = .ok (.astore_n 2, 1)) ∧ (decode cX11_tell 9 = .ok (.aload_n 2, 1)) ∧ (decode cX11_tell 10 = .ok (.ifnonnull 7, 3)) ∧ (decode cX11_tell 13 = .ok (.iconst (-1), 1)) ∧ (decode cX11_tell 14 = .ok (.goto 22, 3)) ∧ (decode cX11_tell 17 = .ok (.aload_n 2, 1)) ∧ (decode cX11_tell 18 = .ok (.aload_n 0, 1)) ∧ (decode cX11_tell 19 = .ok (.getfield 68, 3)) ∧ (decode cX11_tell 22 = .ok (.aload_n 0, 1)) ∧ (decode cX11_tell 23 = .ok (.getfield 21, 3)) ∧ (decode cX11_tell 26 = .ok (.getfield 149, 3)) ∧ (decode cX11_tell 29 = .ok (.iload_n 1, 1)) := by decide +kernel
def dX11_tell_0 := edX11_tell_0.1
def dX11_tell_1 := edX11_tell_0.2.1
def dX11_tell_4 := edX11_tell_0.2.2.1
def dX11_tell_5 := edX11_tell_0.2.2.2.1
def dX11_tell_8 := edX11_tell_0.2.2.2.2.1
def dX11_tell_9 := edX11_tell_0.2.2.2.2.2.1
def dX11_tell_10 := edX11_tell_0.2.2.2.2.2.2.1
def dX11_tell_13 := edX11_tell_0.2.2.2.2.2.2.2.1
def dX11_tell_14 := edX11_tell_0.2.2.2.2.2.2.2.2.1
def dX11_tell_17 := edX11_tell_0.2.2.2.2.2.2.2.2.2.1
def dX11_tell_18 := edX11_tell_0.2.2.2.2.2.2.2.2.2.2.1
def dX11_tell_19 := edX11_tell_0.2.2.2.2.2.2.2.2.2.2.2.1
def dX11_tell_22 := edX11_tell_0.2.2.2.2.2.2.2.2.2.2.2.2.1
def dX11_tell_23 := edX11_tell_0.2.2.2.2.2.2.2.2.2.2.2.2.2.1
def dX11_tell_26 := edX11_tell_0.2.2.2.2.2.2.2.2.2.2.2.2.2.2.1
def dX11_tell_29 := edX11_tell_0.2.2.2.2.2.2.2.2.2.2.2.2.2.2.2
theorem edX11_tell_30 : (decode cX11_tell 30 = .ok (.invokestatic 181, 3)) ∧ (decode cX11_tell 33 = .ok (.invokevirtual 292, 3)) ∧ (decode cX11_tell 36 = .ok (.ireturn, 1)) := by decide +kernel
def dX11_tell_30 := edX11_tell_30.1
def dX11_tell_33 := edX11_tell_30.2.1
def dX11_tell_36 := edX11_tell_30.2.2
set_option maxRecDepth 100000 in
theorem ggX11_look_X4_at : GoodIn wsX11_look wsX4_at := goodIn_ca (b := wsX40) (goodIn_s _ [8, 9] [7] (by decide +kernel) rfl (by decide +kernel)) (goodIn_sub (fun w h => List.mem_cons_of_mem _ (List.mem_append_left _ (List.mem_append_left _ (List.mem_append_left _ (List.mem_append_left _ (List.mem_append_right _ h)))))) gs_wsX40)
set_option maxRecDepth 20000 in
theorem gX11_look_X4_at : GoodIn wsX11_look (wsV RX11 90 RX4 yX4_at wsX4_at) := goodIn_app (goodIn_of _ (by decide +kernel)) ggX11_look_X4_at
set_option maxRecDepth 100000 in
theorem ggX11_look_X0_seenBy : GoodIn wsX11_look wsX0_seenBy := goodIn_ca (b := wsX90) (goodIn_ca (b := wsX100) (goodIn_ca (b := wsX20) (goodIn_ca (b := wsX00) (goodIn_s _ [15, 16, 17, 18, 19, 21] [14, 20] (by decide +kernel) rfl (by decide +kernel)) (goodIn_sub (fun w h => List.mem_cons_of_mem _ (List.mem_append_left _ (List.mem_append_left _ (List.mem_append_left _ (List.mem_append_right _ h))))) gs_wsX00)) (goodIn_sub (fun w h => List.mem_cons_of_mem _ (List.mem_append_left _ (List.mem_append_left _ (List.mem_append_right _ h)))) gs_wsX20)) (goodIn_sub (fun w h => List.mem_cons_of_mem _ (List.mem_append_left _ (List.mem_append_right _ h))) gs_wsX100)) (goodIn_sub (fun w h => List.mem_cons_of_mem _ (List.mem_append_right _ h)) gs_wsX90)
set_option maxRecDepth 20000 in
theorem gX11_look_X0_seenBy : GoodIn wsX11_look (wsV RX11 296 RX0 yX0_seenBy wsX0_seenBy) := goodIn_app (goodIn_of _ (by decide +kernel)) ggX11_look_X0_seenBy
set_option maxRecDepth 20000 in
theorem gX11_look_X0_seenBy_u296X2 : GoodIn wsX11_look (va_wsU RX11 296 RX2 "OilPush$Cylinder" ⟨"OilPush$Cylinder", "seenBy", "(LOilPush$Trace;)I"⟩ yX0_seenBy wsX0_seenBy) := goodIn_app (goodIn_of _ (by decide +kernel)) ggX11_look_X0_seenBy
set_option maxRecDepth 100000 in
theorem ggX11_look_X10_seenBy : GoodIn wsX11_look wsX10_seenBy := goodIn_ca (b := wsX90) (goodIn_s _ [30, 17, 18, 19, 21] [29, 20] (by decide +kernel) rfl (by decide +kernel)) (goodIn_sub (fun w h => List.mem_cons_of_mem _ (List.mem_append_right _ h)) gs_wsX90)
set_option maxRecDepth 20000 in
theorem gX11_look_X10_seenBy_u296X10 : GoodIn wsX11_look (va_wsO RX11 296 RX10 "OilPush$Cylinder" ⟨"OilPush$Cylinder", "seenBy", "(LOilPush$Trace;)I"⟩ yX10_seenBy wsX10_seenBy) := goodIn_app (goodIn_of _ (by decide +kernel)) ggX11_look_X10_seenBy
theorem edX11_look_0 : (decode cX11_look 0 = .ok (.aload_n 0, 1)) ∧ (decode cX11_look 1 = .ok (.getfield 12, 3)) ∧ (decode cX11_look 4 = .ok (.iload_n 1, 1)) ∧ (decode cX11_look 5 = .ok (.invokevirtual 90, 3)) ∧ (decode cX11_look 8 = .ok (.astore_n 2, 1)) ∧ (decode cX11_look 9 = .ok (.aload_n 2, 1)) ∧ (decode cX11_look 10 = .ok (.ifnonnull 7, 3)) ∧ (decode cX11_look 13 = .ok (.iconst (-1), 1)) ∧ (decode cX11_look 14 = .ok (.goto 11, 3)) ∧ (decode cX11_look 17 = .ok (.aload_n 2, 1)) ∧ (decode cX11_look 18 = .ok (.aload_n 0, 1)) ∧ (decode cX11_look 19 = .ok (.getfield 68, 3)) ∧ (decode cX11_look 22 = .ok (.invokevirtual 296, 3)) ∧ (decode cX11_look 25 = .ok (.ireturn, 1)) := by decide +kernel
def dX11_look_0 := edX11_look_0.1
def dX11_look_1 := edX11_look_0.2.1
def dX11_look_4 := edX11_look_0.2.2.1
def dX11_look_5 := edX11_look_0.2.2.2.1
def dX11_look_8 := edX11_look_0.2.2.2.2.1
def dX11_look_9 := edX11_look_0.2.2.2.2.2.1
def dX11_look_10 := edX11_look_0.2.2.2.2.2.2.1
def dX11_look_13 := edX11_look_0.2.2.2.2.2.2.2.1
def dX11_look_14 := edX11_look_0.2.2.2.2.2.2.2.2.1
def dX11_look_17 := edX11_look_0.2.2.2.2.2.2.2.2.2.1
def dX11_look_18 := edX11_look_0.2.2.2.2.2.2.2.2.2.2.1
def dX11_look_19 := edX11_look_0.2.2.2.2.2.2.2.2.2.2.2.1
def dX11_look_22 := edX11_look_0.2.2.2.2.2.2.2.2.2.2.2.2.1
def dX11_look_25 := edX11_look_0.2.2.2.2.2.2.2.2.2.2.2.2.2
set_option maxRecDepth 100000 in
theorem ggX11_as_X4_at : GoodIn wsX11_as wsX4_at := goodIn_ca (b := wsX40) (goodIn_s _ [10, 11] [9] (by decide +kernel) rfl (by decide +kernel)) (goodIn_sub (fun w h => List.mem_cons_of_mem _ (List.mem_append_right _ h)) gs_wsX40)
set_option maxRecDepth 20000 in
theorem gX11_as_X4_at : GoodIn wsX11_as (wsV RX11 90 RX4 yX4_at wsX4_at) := goodIn_app (goodIn_of _ (by decide +kernel)) ggX11_as_X4_at
set_option maxRecDepth 100000 in
theorem ggX11_as_X11_within : GoodIn wsX11_as wsX11_within := goodIn_s _ [] [15] (by decide +kernel) rfl (by decide +kernel)
set_option maxRecDepth 20000 in
theorem gX11_as_X11_within : GoodIn wsX11_as (va_wsS RX11 73 yX11_within wsX11_within) := goodIn_app (goodIn_of _ (by decide +kernel)) ggX11_as_X11_within
set_option maxRecDepth 100000 in
theorem ggX11_as_X11_faulted : GoodIn wsX11_as wsX11_faulted := goodIn_ca (b := wsX110) (goodIn_s _ [1] [19] (by decide +kernel) rfl (by decide +kernel)) (goodIn_sub (fun w h => List.mem_cons_of_mem _ (List.mem_append_left _ (List.mem_append_right _ h))) gs_wsX110)
set_option maxRecDepth 20000 in
theorem gX11_as_X11_faulted : GoodIn wsX11_as (wsV RX11 124 RX11 yX11_faulted wsX11_faulted) := goodIn_app (goodIn_of _ (by decide +kernel)) ggX11_as_X11_faulted
theorem edX11_as_0 : (decode cX11_as 0 = .ok (.aload_n 0, 1)) ∧ (decode cX11_as 1 = .ok (.iconst 0, 1)) ∧ (decode cX11_as 2 = .ok (.putfield 110, 3)) ∧ (decode cX11_as 5 = .ok (.aload_n 0, 1)) ∧ (decode cX11_as 6 = .ok (.getfield 12, 3)) ∧ (decode cX11_as 9 = .ok (.iload_n 1, 1)) ∧ (decode cX11_as 10 = .ok (.invokevirtual 90, 3)) ∧ (decode cX11_as 13 = .ok (.astore_n 3, 1)) ∧ (decode cX11_as 14 = .ok (.aload_n 3, 1)) ∧ (decode cX11_as 15 = .ok (.ifnonnull 5, 3)) ∧ (decode cX11_as 18 = .ok (.iconst (-1), 1)) ∧ (decode cX11_as 19 = .ok (.ireturn, 1)) ∧ (decode cX11_as 20 = .ok (.iload_n 2, 1)) ∧ (decode cX11_as 21 = .ok (.iconst 0, 1)) ∧ (decode cX11_as 22 = .ok (.iconst 2, 1)) ∧ (decode cX11_as 23 = .ok (.invokestatic 73, 3)) := by decide +kernel
def dX11_as_0 := edX11_as_0.1
def dX11_as_1 := edX11_as_0.2.1
def dX11_as_2 := edX11_as_0.2.2.1
def dX11_as_5 := edX11_as_0.2.2.2.1
def dX11_as_6 := edX11_as_0.2.2.2.2.1
def dX11_as_9 := edX11_as_0.2.2.2.2.2.1
def dX11_as_10 := edX11_as_0.2.2.2.2.2.2.1
def dX11_as_13 := edX11_as_0.2.2.2.2.2.2.2.1
def dX11_as_14 := edX11_as_0.2.2.2.2.2.2.2.2.1
def dX11_as_15 := edX11_as_0.2.2.2.2.2.2.2.2.2.1
def dX11_as_18 := edX11_as_0.2.2.2.2.2.2.2.2.2.2.1
def dX11_as_19 := edX11_as_0.2.2.2.2.2.2.2.2.2.2.2.1
def dX11_as_20 := edX11_as_0.2.2.2.2.2.2.2.2.2.2.2.2.1
def dX11_as_21 := edX11_as_0.2.2.2.2.2.2.2.2.2.2.2.2.2.1
def dX11_as_22 := edX11_as_0.2.2.2.2.2.2.2.2.2.2.2.2.2.2.1
def dX11_as_23 := edX11_as_0.2.2.2.2.2.2.2.2.2.2.2.2.2.2.2
theorem edX11_as_26 : (decode cX11_as 26 = .ok (.ifCond .ne 6, 3)) ∧ (decode cX11_as 29 = .ok (.bipush (-2), 2)) ∧ (decode cX11_as 31 = .ok (.ireturn, 1)) ∧ (decode cX11_as 32 = .ok (.iload_n 2, 1)) ∧ (decode cX11_as 33 = .ok (.ifCond .eq 25, 3)) ∧ (decode cX11_as 36 = .ok (.iload_n 2, 1)) ∧ (decode cX11_as 37 = .ok (.iconst 1, 1)) ∧ (decode cX11_as 38 = .ok (.if_icmp .ne 13, 3)) ∧ (decode cX11_as 41 = .ok (.aload_n 3, 1)) ∧ (decode cX11_as 42 = .ok (.instanceof 300, 3)) ∧ (decode cX11_as 45 = .ok (.ifCond .eq 17, 3)) ∧ (decode cX11_as 48 = .ok (.goto 10, 3)) ∧ (decode cX11_as 51 = .ok (.aload_n 3, 1)) ∧ (decode cX11_as 52 = .ok (.instanceof 302, 3)) ∧ (decode cX11_as 55 = .ok (.ifCond .eq 7, 3)) ∧ (decode cX11_as 58 = .ok (.iconst 1, 1)) := by decide +kernel
def dX11_as_26 := edX11_as_26.1
def dX11_as_29 := edX11_as_26.2.1
def dX11_as_31 := edX11_as_26.2.2.1
def dX11_as_32 := edX11_as_26.2.2.2.1
def dX11_as_33 := edX11_as_26.2.2.2.2.1
def dX11_as_36 := edX11_as_26.2.2.2.2.2.1
def dX11_as_37 := edX11_as_26.2.2.2.2.2.2.1
def dX11_as_38 := edX11_as_26.2.2.2.2.2.2.2.1
def dX11_as_41 := edX11_as_26.2.2.2.2.2.2.2.2.1
def dX11_as_42 := edX11_as_26.2.2.2.2.2.2.2.2.2.1
def dX11_as_45 := edX11_as_26.2.2.2.2.2.2.2.2.2.2.1
def dX11_as_48 := edX11_as_26.2.2.2.2.2.2.2.2.2.2.2.1
def dX11_as_51 := edX11_as_26.2.2.2.2.2.2.2.2.2.2.2.2.1
def dX11_as_52 := edX11_as_26.2.2.2.2.2.2.2.2.2.2.2.2.2.1
def dX11_as_55 := edX11_as_26.2.2.2.2.2.2.2.2.2.2.2.2.2.2.1
def dX11_as_58 := edX11_as_26.2.2.2.2.2.2.2.2.2.2.2.2.2.2.2
theorem edX11_as_59 : (decode cX11_as 59 = .ok (.goto 4, 3)) ∧ (decode cX11_as 62 = .ok (.iconst 0, 1)) ∧ (decode cX11_as 63 = .ok (.istore 4, 2)) ∧ (decode cX11_as 65 = .ok (.iload 4, 2)) ∧ (decode cX11_as 67 = .ok (.ifCond .eq 7, 3)) ∧ (decode cX11_as 70 = .ok (.iconst 1, 1)) ∧ (decode cX11_as 71 = .ok (.goto 8, 3)) ∧ (decode cX11_as 74 = .ok (.aload_n 0, 1)) ∧ (decode cX11_as 75 = .ok (.iconst 2, 1)) ∧ (decode cX11_as 76 = .ok (.invokevirtual 124, 3)) ∧ (decode cX11_as 79 = .ok (.ireturn, 1)) := by decide +kernel
def dX11_as_59 := edX11_as_59.1
def dX11_as_62 := edX11_as_59.2.1
def dX11_as_63 := edX11_as_59.2.2.1
def dX11_as_65 := edX11_as_59.2.2.2.1
def dX11_as_67 := edX11_as_59.2.2.2.2.1
def dX11_as_70 := edX11_as_59.2.2.2.2.2.1
def dX11_as_71 := edX11_as_59.2.2.2.2.2.2.1
def dX11_as_74 := edX11_as_59.2.2.2.2.2.2.2.1
def dX11_as_75 := edX11_as_59.2.2.2.2.2.2.2.2.1
def dX11_as_76 := edX11_as_59.2.2.2.2.2.2.2.2.2.1
def dX11_as_79 := edX11_as_59.2.2.2.2.2.2.2.2.2.2
theorem edX11_trace_0 : (decode cX11_trace 0 = .ok (.aload_n 0, 1)) ∧ (decode cX11_trace 1 = .ok (.getfield 68, 3)) ∧ (decode cX11_trace 4 = .ok (.getfield 304, 3)) ∧ (decode cX11_trace 7 = .ok (.ireturn, 1)) := by decide +kernel
def dX11_trace_0 := edX11_trace_0.1
def dX11_trace_1 := edX11_trace_0.2.1
def dX11_trace_4 := edX11_trace_0.2.2.1
def dX11_trace_7 := edX11_trace_0.2.2.2
theorem edX11_fault_0 : (decode cX11_fault 0 = .ok (.aload_n 0, 1)) ∧ (decode cX11_fault 1 = .ok (.getfield 110, 3)) ∧ (decode cX11_fault 4 = .ok (.ireturn, 1)) := by decide +kernel
def dX11_fault_0 := edX11_fault_0.1
def dX11_fault_1 := edX11_fault_0.2.1
def dX11_fault_4 := edX11_fault_0.2.2
set_option maxRecDepth 100000 in
theorem ggX11_told_X4_howManyAt : GoodIn wsX11_told wsX4_howManyAt := goodIn_ca (b := wsX100) (goodIn_ca (b := wsX20) (goodIn_ca (b := wsX00) (goodIn_ca (b := wsX70) (goodIn_ca (b := wsX40) (goodIn_s _ [14, 15, 16, 17, 18, 12, 20, 21, 22, 24, 25, 26, 27, 29, 30, 31, 33, 34, 35, 36, 37, 38, 39, 40, 41, 42] [13, 19, 23, 28, 32] (by decide +kernel) rfl (by decide +kernel)) (goodIn_sub (fun w h => List.mem_cons_of_mem _ (List.mem_append_left _ (List.mem_append_left _ (List.mem_append_left _ (List.mem_append_left _ (List.mem_append_left _ (List.mem_append_left _ (List.mem_append_right _ h)))))))) gs_wsX40)) (goodIn_sub (fun w h => List.mem_cons_of_mem _ (List.mem_append_left _ (List.mem_append_left _ (List.mem_append_left _ (List.mem_append_right _ h))))) gs_wsX70)) (goodIn_sub (fun w h => List.mem_cons_of_mem _ (List.mem_append_left _ (List.mem_append_left _ (List.mem_append_right _ h)))) gs_wsX00)) (goodIn_sub (fun w h => List.mem_cons_of_mem _ (List.mem_append_left _ (List.mem_append_right _ h))) gs_wsX20)) (goodIn_sub (fun w h => List.mem_cons_of_mem _ (List.mem_append_right _ h)) gs_wsX100)
set_option maxRecDepth 20000 in
theorem gX11_told_X4_howManyAt : GoodIn wsX11_told (wsV RX11 307 RX4 yX4_howManyAt wsX4_howManyAt) := goodIn_app (goodIn_of _ (by decide +kernel)) ggX11_told_X4_howManyAt
theorem edX11_told_0 : (decode cX11_told 0 = .ok (.iload_n 1, 1)) ∧ (decode cX11_told 1 = .ok (.tableswitch 94 0 5 #[39, 47, 55, 63, 68, 81], 39)) ∧ (decode cX11_told 40 = .ok (.aload_n 0, 1)) ∧ (decode cX11_told 41 = .ok (.getfield 12, 3)) ∧ (decode cX11_told 44 = .ok (.getfield 87, 3)) ∧ (decode cX11_told 47 = .ok (.ireturn, 1)) ∧ (decode cX11_told 48 = .ok (.aload_n 0, 1)) ∧ (decode cX11_told 49 = .ok (.getfield 35, 3)) ∧ (decode cX11_told 52 = .ok (.getfield 244, 3)) ∧ (decode cX11_told 55 = .ok (.ireturn, 1)) ∧ (decode cX11_told 56 = .ok (.aload_n 0, 1)) ∧ (decode cX11_told 57 = .ok (.getfield 55, 3)) ∧ (decode cX11_told 60 = .ok (.getfield 256, 3)) ∧ (decode cX11_told 63 = .ok (.ireturn, 1)) ∧ (decode cX11_told 64 = .ok (.aload_n 0, 1)) ∧ (decode cX11_told 65 = .ok (.getfield 197, 3)) := by decide +kernel
def dX11_told_0 := edX11_told_0.1
def dX11_told_1 := edX11_told_0.2.1
def dX11_told_40 := edX11_told_0.2.2.1
def dX11_told_41 := edX11_told_0.2.2.2.1
def dX11_told_44 := edX11_told_0.2.2.2.2.1
def dX11_told_47 := edX11_told_0.2.2.2.2.2.1
def dX11_told_48 := edX11_told_0.2.2.2.2.2.2.1
def dX11_told_49 := edX11_told_0.2.2.2.2.2.2.2.1
def dX11_told_52 := edX11_told_0.2.2.2.2.2.2.2.2.1
def dX11_told_55 := edX11_told_0.2.2.2.2.2.2.2.2.2.1
def dX11_told_56 := edX11_told_0.2.2.2.2.2.2.2.2.2.2.1
def dX11_told_57 := edX11_told_0.2.2.2.2.2.2.2.2.2.2.2.1
def dX11_told_60 := edX11_told_0.2.2.2.2.2.2.2.2.2.2.2.2.1
def dX11_told_63 := edX11_told_0.2.2.2.2.2.2.2.2.2.2.2.2.2.1
def dX11_told_64 := edX11_told_0.2.2.2.2.2.2.2.2.2.2.2.2.2.2.1
def dX11_told_65 := edX11_told_0.2.2.2.2.2.2.2.2.2.2.2.2.2.2.2
theorem edX11_told_68 : (decode cX11_told 68 = .ok (.ireturn, 1)) ∧ (decode cX11_told 69 = .ok (.aload_n 0, 1)) ∧ (decode cX11_told 70 = .ok (.getfield 12, 3)) ∧ (decode cX11_told 73 = .ok (.iconst 1, 1)) ∧ (decode cX11_told 74 = .ok (.aload_n 0, 1)) ∧ (decode cX11_told 75 = .ok (.getfield 21, 3)) ∧ (decode cX11_told 78 = .ok (.invokevirtual 307, 3)) ∧ (decode cX11_told 81 = .ok (.ireturn, 1)) ∧ (decode cX11_told 82 = .ok (.aload_n 0, 1)) ∧ (decode cX11_told 83 = .ok (.getfield 12, 3)) ∧ (decode cX11_told 86 = .ok (.iconst 2, 1)) ∧ (decode cX11_told 87 = .ok (.aload_n 0, 1)) ∧ (decode cX11_told 88 = .ok (.getfield 21, 3)) ∧ (decode cX11_told 91 = .ok (.invokevirtual 307, 3)) ∧ (decode cX11_told 94 = .ok (.ireturn, 1)) ∧ (decode cX11_told 95 = .ok (.bipush (-2), 2)) := by decide +kernel
def dX11_told_68 := edX11_told_68.1
def dX11_told_69 := edX11_told_68.2.1
def dX11_told_70 := edX11_told_68.2.2.1
def dX11_told_73 := edX11_told_68.2.2.2.1
def dX11_told_74 := edX11_told_68.2.2.2.2.1
def dX11_told_75 := edX11_told_68.2.2.2.2.2.1
def dX11_told_78 := edX11_told_68.2.2.2.2.2.2.1
def dX11_told_81 := edX11_told_68.2.2.2.2.2.2.2.1
def dX11_told_82 := edX11_told_68.2.2.2.2.2.2.2.2.1
def dX11_told_83 := edX11_told_68.2.2.2.2.2.2.2.2.2.1
def dX11_told_86 := edX11_told_68.2.2.2.2.2.2.2.2.2.2.1
def dX11_told_87 := edX11_told_68.2.2.2.2.2.2.2.2.2.2.2.1
def dX11_told_88 := edX11_told_68.2.2.2.2.2.2.2.2.2.2.2.2.1
def dX11_told_91 := edX11_told_68.2.2.2.2.2.2.2.2.2.2.2.2.2.1
def dX11_told_94 := edX11_told_68.2.2.2.2.2.2.2.2.2.2.2.2.2.2.1
def dX11_told_95 := edX11_told_68.2.2.2.2.2.2.2.2.2.2.2.2.2.2.2
theorem dX11_told_97 : decode cX11_told 97 = .ok (.ireturn, 1) := by decide +kernel
theorem edX11_get_0 : (decode cX11_get 0 = .ok (.iload_n 1, 1)) ∧ (decode cX11_get 1 = .ok (.ifCond .lt 15, 3)) ∧ (decode cX11_get 4 = .ok (.iload_n 1, 1)) ∧ (decode cX11_get 5 = .ok (.aload_n 0, 1)) ∧ (decode cX11_get 6 = .ok (.arraylength, 1)) ∧ (decode cX11_get 7 = .ok (.if_icmp .ge 9, 3)) ∧ (decode cX11_get 10 = .ok (.aload_n 0, 1)) ∧ (decode cX11_get 11 = .ok (.iload_n 1, 1)) ∧ (decode cX11_get 12 = .ok (.iaload, 1)) ∧ (decode cX11_get 13 = .ok (.goto 4, 3)) ∧ (decode cX11_get 16 = .ok (.iconst 0, 1)) ∧ (decode cX11_get 17 = .ok (.ireturn, 1)) := by decide +kernel
def dX11_get_0 := edX11_get_0.1
def dX11_get_1 := edX11_get_0.2.1
def dX11_get_4 := edX11_get_0.2.2.1
def dX11_get_5 := edX11_get_0.2.2.2.1
def dX11_get_6 := edX11_get_0.2.2.2.2.1
def dX11_get_7 := edX11_get_0.2.2.2.2.2.1
def dX11_get_10 := edX11_get_0.2.2.2.2.2.2.1
def dX11_get_11 := edX11_get_0.2.2.2.2.2.2.2.1
def dX11_get_12 := edX11_get_0.2.2.2.2.2.2.2.2.1
def dX11_get_13 := edX11_get_0.2.2.2.2.2.2.2.2.2.1
def dX11_get_16 := edX11_get_0.2.2.2.2.2.2.2.2.2.2.1
def dX11_get_17 := edX11_get_0.2.2.2.2.2.2.2.2.2.2.2
theorem edX11_set_0 : (decode cX11_set 0 = .ok (.iload_n 1, 1)) ∧ (decode cX11_set 1 = .ok (.ifCond .lt 13, 3)) ∧ (decode cX11_set 4 = .ok (.iload_n 1, 1)) ∧ (decode cX11_set 5 = .ok (.aload_n 0, 1)) ∧ (decode cX11_set 6 = .ok (.arraylength, 1)) ∧ (decode cX11_set 7 = .ok (.if_icmp .ge 7, 3)) ∧ (decode cX11_set 10 = .ok (.aload_n 0, 1)) ∧ (decode cX11_set 11 = .ok (.iload_n 1, 1)) ∧ (decode cX11_set 12 = .ok (.iload_n 2, 1)) ∧ (decode cX11_set 13 = .ok (.iastore, 1)) ∧ (decode cX11_set 14 = .ok (.return_, 1)) := by decide +kernel
def dX11_set_0 := edX11_set_0.1
def dX11_set_1 := edX11_set_0.2.1
def dX11_set_4 := edX11_set_0.2.2.1
def dX11_set_5 := edX11_set_0.2.2.2.1
def dX11_set_6 := edX11_set_0.2.2.2.2.1
def dX11_set_7 := edX11_set_0.2.2.2.2.2.1
def dX11_set_10 := edX11_set_0.2.2.2.2.2.2.1
def dX11_set_11 := edX11_set_0.2.2.2.2.2.2.2.1
def dX11_set_12 := edX11_set_0.2.2.2.2.2.2.2.2.1
def dX11_set_13 := edX11_set_0.2.2.2.2.2.2.2.2.2.1
def dX11_set_14 := edX11_set_0.2.2.2.2.2.2.2.2.2.2
set_option maxRecDepth 100000 in
theorem ggX11_swap_X11_get : GoodIn wsX11_swap wsX11_get := goodIn_s _ [] [4] (by decide +kernel) rfl (by decide +kernel)
set_option maxRecDepth 20000 in
theorem gX11_swap_X11_get : GoodIn wsX11_swap (va_wsS RX11 181 yX11_get wsX11_get) := goodIn_app (goodIn_of _ (by decide +kernel)) ggX11_swap_X11_get
set_option maxRecDepth 100000 in
theorem ggX11_swap_X11_set : GoodIn wsX11_swap wsX11_set := goodIn_s _ [] [7] (by decide +kernel) rfl (by decide +kernel)
set_option maxRecDepth 20000 in
theorem gX11_swap_X11_set : GoodIn wsX11_swap (va_wsS RX11 266 yX11_set wsX11_set) := goodIn_app (goodIn_of _ (by decide +kernel)) ggX11_swap_X11_set
theorem edX11_swap_0 : (decode cX11_swap 0 = .ok (.aload_n 0, 1)) ∧ (decode cX11_swap 1 = .ok (.iload_n 1, 1)) ∧ (decode cX11_swap 2 = .ok (.invokestatic 181, 3)) ∧ (decode cX11_swap 5 = .ok (.istore_n 3, 1)) ∧ (decode cX11_swap 6 = .ok (.aload_n 0, 1)) ∧ (decode cX11_swap 7 = .ok (.iload_n 1, 1)) ∧ (decode cX11_swap 8 = .ok (.iload_n 2, 1)) ∧ (decode cX11_swap 9 = .ok (.invokestatic 266, 3)) ∧ (decode cX11_swap 12 = .ok (.iload_n 3, 1)) ∧ (decode cX11_swap 13 = .ok (.ireturn, 1)) := by decide +kernel
def dX11_swap_0 := edX11_swap_0.1
def dX11_swap_1 := edX11_swap_0.2.1
def dX11_swap_2 := edX11_swap_0.2.2.1
def dX11_swap_5 := edX11_swap_0.2.2.2.1
def dX11_swap_6 := edX11_swap_0.2.2.2.2.1
def dX11_swap_7 := edX11_swap_0.2.2.2.2.2.1
def dX11_swap_8 := edX11_swap_0.2.2.2.2.2.2.1
def dX11_swap_9 := edX11_swap_0.2.2.2.2.2.2.2.1
def dX11_swap_12 := edX11_swap_0.2.2.2.2.2.2.2.2.1
def dX11_swap_13 := edX11_swap_0.2.2.2.2.2.2.2.2.2
theorem edX11_within_0 : (decode cX11_within 0 = .ok (.iload_n 0, 1)) ∧ (decode cX11_within 1 = .ok (.iload_n 1, 1)) ∧ (decode cX11_within 2 = .ok (.if_icmp .lt 12, 3)) ∧ (decode cX11_within 5 = .ok (.iload_n 0, 1)) ∧ (decode cX11_within 6 = .ok (.iload_n 2, 1)) ∧ (decode cX11_within 7 = .ok (.if_icmp .gt 7, 3)) ∧ (decode cX11_within 10 = .ok (.iconst 1, 1)) ∧ (decode cX11_within 11 = .ok (.goto 4, 3)) ∧ (decode cX11_within 14 = .ok (.iconst 0, 1)) ∧ (decode cX11_within 15 = .ok (.ireturn, 1)) := by decide +kernel
def dX11_within_0 := edX11_within_0.1
def dX11_within_1 := edX11_within_0.2.1
def dX11_within_2 := edX11_within_0.2.2.1
def dX11_within_5 := edX11_within_0.2.2.2.1
def dX11_within_6 := edX11_within_0.2.2.2.2.1
def dX11_within_7 := edX11_within_0.2.2.2.2.2.1
def dX11_within_10 := edX11_within_0.2.2.2.2.2.2.1
def dX11_within_11 := edX11_within_0.2.2.2.2.2.2.2.1
def dX11_within_14 := edX11_within_0.2.2.2.2.2.2.2.2.1
def dX11_within_15 := edX11_within_0.2.2.2.2.2.2.2.2.2
set_option maxRecDepth 100000 in
theorem ggX11_isLane_X11_within : GoodIn wsX11_isLane wsX11_within := goodIn_s _ [] [4] (by decide +kernel) rfl (by decide +kernel)
set_option maxRecDepth 20000 in
theorem gX11_isLane_X11_within : GoodIn wsX11_isLane (va_wsS RX11 73 yX11_within wsX11_within) := goodIn_app (goodIn_of _ (by decide +kernel)) ggX11_isLane_X11_within
theorem edX11_isLane_0 : (decode cX11_isLane 0 = .ok (.iload_n 0, 1)) ∧ (decode cX11_isLane 1 = .ok (.iconst 0, 1)) ∧ (decode cX11_isLane 2 = .ok (.iconst 2, 1)) ∧ (decode cX11_isLane 3 = .ok (.invokestatic 73, 3)) ∧ (decode cX11_isLane 6 = .ok (.ireturn, 1)) := by decide +kernel
def dX11_isLane_0 := edX11_isLane_0.1
def dX11_isLane_1 := edX11_isLane_0.2.1
def dX11_isLane_2 := edX11_isLane_0.2.2.1
def dX11_isLane_3 := edX11_isLane_0.2.2.2.1
def dX11_isLane_6 := edX11_isLane_0.2.2.2.2
theorem edX11_sheetAt_0 : (decode cX11_sheetAt 0 = .ok (.iload_n 1, 1)) ∧ (decode cX11_sheetAt 1 = .ok (.ifCond .lt 21, 3)) ∧ (decode cX11_sheetAt 4 = .ok (.iload_n 1, 1)) ∧ (decode cX11_sheetAt 5 = .ok (.aload_n 0, 1)) ∧ (decode cX11_sheetAt 6 = .ok (.getfield 61, 3)) ∧ (decode cX11_sheetAt 9 = .ok (.arraylength, 1)) ∧ (decode cX11_sheetAt 10 = .ok (.if_icmp .ge 12, 3)) ∧ (decode cX11_sheetAt 13 = .ok (.aload_n 0, 1)) ∧ (decode cX11_sheetAt 14 = .ok (.getfield 61, 3)) ∧ (decode cX11_sheetAt 17 = .ok (.iload_n 1, 1)) ∧ (decode cX11_sheetAt 18 = .ok (.aaload, 1)) ∧ (decode cX11_sheetAt 19 = .ok (.goto 4, 3)) ∧ (decode cX11_sheetAt 22 = .ok (.aconst_null, 1)) ∧ (decode cX11_sheetAt 23 = .ok (.areturn, 1)) := by decide +kernel
def dX11_sheetAt_0 := edX11_sheetAt_0.1
def dX11_sheetAt_1 := edX11_sheetAt_0.2.1
def dX11_sheetAt_4 := edX11_sheetAt_0.2.2.1
def dX11_sheetAt_5 := edX11_sheetAt_0.2.2.2.1
def dX11_sheetAt_6 := edX11_sheetAt_0.2.2.2.2.1
def dX11_sheetAt_9 := edX11_sheetAt_0.2.2.2.2.2.1
def dX11_sheetAt_10 := edX11_sheetAt_0.2.2.2.2.2.2.1
def dX11_sheetAt_13 := edX11_sheetAt_0.2.2.2.2.2.2.2.1
def dX11_sheetAt_14 := edX11_sheetAt_0.2.2.2.2.2.2.2.2.1
def dX11_sheetAt_17 := edX11_sheetAt_0.2.2.2.2.2.2.2.2.2.1
def dX11_sheetAt_18 := edX11_sheetAt_0.2.2.2.2.2.2.2.2.2.2.1
def dX11_sheetAt_19 := edX11_sheetAt_0.2.2.2.2.2.2.2.2.2.2.2.1
def dX11_sheetAt_22 := edX11_sheetAt_0.2.2.2.2.2.2.2.2.2.2.2.2.1
def dX11_sheetAt_23 := edX11_sheetAt_0.2.2.2.2.2.2.2.2.2.2.2.2.2
theorem edX11_faulted_0 : (decode cX11_faulted 0 = .ok (.aload_n 0, 1)) ∧ (decode cX11_faulted 1 = .ok (.iload_n 1, 1)) ∧ (decode cX11_faulted 2 = .ok (.putfield 110, 3)) ∧ (decode cX11_faulted 5 = .ok (.bipush (-10), 2)) ∧ (decode cX11_faulted 7 = .ok (.iload_n 1, 1)) ∧ (decode cX11_faulted 8 = .ok (.isub, 1)) ∧ (decode cX11_faulted 9 = .ok (.ireturn, 1)) := by decide +kernel
def dX11_faulted_0 := edX11_faulted_0.1
def dX11_faulted_1 := edX11_faulted_0.2.1
def dX11_faulted_2 := edX11_faulted_0.2.2.1
def dX11_faulted_5 := edX11_faulted_0.2.2.2.1
def dX11_faulted_7 := edX11_faulted_0.2.2.2.2.1
def dX11_faulted_8 := edX11_faulted_0.2.2.2.2.2.1
def dX11_faulted_9 := edX11_faulted_0.2.2.2.2.2.2
theorem edX12_init_0 : (decode cX12_init 0 = .ok (.aload_n 0, 1)) ∧ (decode cX12_init 1 = .ok (.invokespecial 1, 3)) ∧ (decode cX12_init 4 = .ok (.aload_n 0, 1)) ∧ (decode cX12_init 5 = .ok (.iconst 4, 1)) ∧ (decode cX12_init 6 = .ok (.newarray .int, 2)) ∧ (decode cX12_init 8 = .ok (.putfield 7, 3)) ∧ (decode cX12_init 11 = .ok (.aload_n 0, 1)) ∧ (decode cX12_init 12 = .ok (.iconst 4, 1)) ∧ (decode cX12_init 13 = .ok (.newarray .int, 2)) ∧ (decode cX12_init 15 = .ok (.putfield 13, 3)) ∧ (decode cX12_init 18 = .ok (.aload_n 0, 1)) ∧ (decode cX12_init 19 = .ok (.bipush 80, 2)) ∧ (decode cX12_init 21 = .ok (.newarray .int, 2)) ∧ (decode cX12_init 23 = .ok (.putfield 16, 3)) ∧ (decode cX12_init 26 = .ok (.aload_n 0, 1)) ∧ (decode cX12_init 27 = .ok (.bipush 20, 2)) := by decide +kernel
def dX12_init_0 := edX12_init_0.1
def dX12_init_1 := edX12_init_0.2.1
def dX12_init_4 := edX12_init_0.2.2.1
def dX12_init_5 := edX12_init_0.2.2.2.1
def dX12_init_6 := edX12_init_0.2.2.2.2.1
def dX12_init_8 := edX12_init_0.2.2.2.2.2.1
def dX12_init_11 := edX12_init_0.2.2.2.2.2.2.1
def dX12_init_12 := edX12_init_0.2.2.2.2.2.2.2.1
def dX12_init_13 := edX12_init_0.2.2.2.2.2.2.2.2.1
def dX12_init_15 := edX12_init_0.2.2.2.2.2.2.2.2.2.1
def dX12_init_18 := edX12_init_0.2.2.2.2.2.2.2.2.2.2.1
def dX12_init_19 := edX12_init_0.2.2.2.2.2.2.2.2.2.2.2.1
def dX12_init_21 := edX12_init_0.2.2.2.2.2.2.2.2.2.2.2.2.1
def dX12_init_23 := edX12_init_0.2.2.2.2.2.2.2.2.2.2.2.2.2.1
def dX12_init_26 := edX12_init_0.2.2.2.2.2.2.2.2.2.2.2.2.2.2.1
def dX12_init_27 := edX12_init_0.2.2.2.2.2.2.2.2.2.2.2.2.2.2.2
theorem edX12_init_29 : (decode cX12_init 29 = .ok (.newarray .int, 2)) ∧ (decode cX12_init 31 = .ok (.putfield 19, 3)) ∧ (decode cX12_init 34 = .ok (.aload_n 0, 1)) ∧ (decode cX12_init 35 = .ok (.bipush 6, 2)) ∧ (decode cX12_init 37 = .ok (.newarray .int, 2)) ∧ (decode cX12_init 39 = .ok (.putfield 22, 3)) ∧ (decode cX12_init 42 = .ok (.aload_n 0, 1)) ∧ (decode cX12_init 43 = .ok (.bipush 6, 2)) ∧ (decode cX12_init 45 = .ok (.newarray .int, 2)) ∧ (decode cX12_init 47 = .ok (.putfield 25, 3)) ∧ (decode cX12_init 50 = .ok (.aload_n 0, 1)) ∧ (decode cX12_init 51 = .ok (.bipush 6, 2)) ∧ (decode cX12_init 53 = .ok (.newarray .int, 2)) ∧ (decode cX12_init 55 = .ok (.putfield 28, 3)) ∧ (decode cX12_init 58 = .ok (.aload_n 0, 1)) ∧ (decode cX12_init 59 = .ok (.bipush 6, 2)) := by decide +kernel
def dX12_init_29 := edX12_init_29.1
def dX12_init_31 := edX12_init_29.2.1
def dX12_init_34 := edX12_init_29.2.2.1
def dX12_init_35 := edX12_init_29.2.2.2.1
def dX12_init_37 := edX12_init_29.2.2.2.2.1
def dX12_init_39 := edX12_init_29.2.2.2.2.2.1
def dX12_init_42 := edX12_init_29.2.2.2.2.2.2.1
def dX12_init_43 := edX12_init_29.2.2.2.2.2.2.2.1
def dX12_init_45 := edX12_init_29.2.2.2.2.2.2.2.2.1
def dX12_init_47 := edX12_init_29.2.2.2.2.2.2.2.2.2.1
def dX12_init_50 := edX12_init_29.2.2.2.2.2.2.2.2.2.2.1
def dX12_init_51 := edX12_init_29.2.2.2.2.2.2.2.2.2.2.2.1
def dX12_init_53 := edX12_init_29.2.2.2.2.2.2.2.2.2.2.2.2.1
def dX12_init_55 := edX12_init_29.2.2.2.2.2.2.2.2.2.2.2.2.2.1
def dX12_init_58 := edX12_init_29.2.2.2.2.2.2.2.2.2.2.2.2.2.2.1
def dX12_init_59 := edX12_init_29.2.2.2.2.2.2.2.2.2.2.2.2.2.2.2
theorem edX12_init_61 : (decode cX12_init 61 = .ok (.newarray .int, 2)) ∧ (decode cX12_init 63 = .ok (.putfield 31, 3)) ∧ (decode cX12_init 66 = .ok (.aload_n 0, 1)) ∧ (decode cX12_init 67 = .ok (.bipush 6, 2)) ∧ (decode cX12_init 69 = .ok (.newarray .int, 2)) ∧ (decode cX12_init 71 = .ok (.putfield 34, 3)) ∧ (decode cX12_init 74 = .ok (.aload_n 0, 1)) ∧ (decode cX12_init 75 = .ok (.bipush 60, 2)) ∧ (decode cX12_init 77 = .ok (.newarray .int, 2)) ∧ (decode cX12_init 79 = .ok (.putfield 37, 3)) ∧ (decode cX12_init 82 = .ok (.aload_n 0, 1)) ∧ (decode cX12_init 83 = .ok (.bipush 6, 2)) ∧ (decode cX12_init 85 = .ok (.newarray .int, 2)) ∧ (decode cX12_init 87 = .ok (.putfield 40, 3)) ∧ (decode cX12_init 90 = .ok (.aload_n 0, 1)) ∧ (decode cX12_init 91 = .ok (.bipush 6, 2)) := by decide +kernel
def dX12_init_61 := edX12_init_61.1
def dX12_init_63 := edX12_init_61.2.1
def dX12_init_66 := edX12_init_61.2.2.1
def dX12_init_67 := edX12_init_61.2.2.2.1
def dX12_init_69 := edX12_init_61.2.2.2.2.1
def dX12_init_71 := edX12_init_61.2.2.2.2.2.1
def dX12_init_74 := edX12_init_61.2.2.2.2.2.2.1
def dX12_init_75 := edX12_init_61.2.2.2.2.2.2.2.1
def dX12_init_77 := edX12_init_61.2.2.2.2.2.2.2.2.1
def dX12_init_79 := edX12_init_61.2.2.2.2.2.2.2.2.2.1
def dX12_init_82 := edX12_init_61.2.2.2.2.2.2.2.2.2.2.1
def dX12_init_83 := edX12_init_61.2.2.2.2.2.2.2.2.2.2.2.1
def dX12_init_85 := edX12_init_61.2.2.2.2.2.2.2.2.2.2.2.2.1
def dX12_init_87 := edX12_init_61.2.2.2.2.2.2.2.2.2.2.2.2.2.1
def dX12_init_90 := edX12_init_61.2.2.2.2.2.2.2.2.2.2.2.2.2.2.1
def dX12_init_91 := edX12_init_61.2.2.2.2.2.2.2.2.2.2.2.2.2.2.2
theorem edX12_init_93 : (decode cX12_init 93 = .ok (.newarray .int, 2)) ∧ (decode cX12_init 95 = .ok (.putfield 43, 3)) ∧ (decode cX12_init 98 = .ok (.aload_n 0, 1)) ∧ (decode cX12_init 99 = .ok (.bipush 6, 2)) ∧ (decode cX12_init 101 = .ok (.newarray .int, 2)) ∧ (decode cX12_init 103 = .ok (.putfield 46, 3)) ∧ (decode cX12_init 106 = .ok (.aload_n 0, 1)) ∧ (decode cX12_init 107 = .ok (.bipush 6, 2)) ∧ (decode cX12_init 109 = .ok (.newarray .int, 2)) ∧ (decode cX12_init 111 = .ok (.putfield 49, 3)) ∧ (decode cX12_init 114 = .ok (.aload_n 0, 1)) ∧ (decode cX12_init 115 = .ok (.bipush 6, 2)) ∧ (decode cX12_init 117 = .ok (.newarray .boolean, 2)) ∧ (decode cX12_init 119 = .ok (.putfield 52, 3)) ∧ (decode cX12_init 122 = .ok (.aload_n 0, 1)) ∧ (decode cX12_init 123 = .ok (.bipush 6, 2)) := by decide +kernel
def dX12_init_93 := edX12_init_93.1
def dX12_init_95 := edX12_init_93.2.1
def dX12_init_98 := edX12_init_93.2.2.1
def dX12_init_99 := edX12_init_93.2.2.2.1
def dX12_init_101 := edX12_init_93.2.2.2.2.1
def dX12_init_103 := edX12_init_93.2.2.2.2.2.1
def dX12_init_106 := edX12_init_93.2.2.2.2.2.2.1
def dX12_init_107 := edX12_init_93.2.2.2.2.2.2.2.1
def dX12_init_109 := edX12_init_93.2.2.2.2.2.2.2.2.1
def dX12_init_111 := edX12_init_93.2.2.2.2.2.2.2.2.2.1
def dX12_init_114 := edX12_init_93.2.2.2.2.2.2.2.2.2.2.1
def dX12_init_115 := edX12_init_93.2.2.2.2.2.2.2.2.2.2.2.1
def dX12_init_117 := edX12_init_93.2.2.2.2.2.2.2.2.2.2.2.2.1
def dX12_init_119 := edX12_init_93.2.2.2.2.2.2.2.2.2.2.2.2.2.1
def dX12_init_122 := edX12_init_93.2.2.2.2.2.2.2.2.2.2.2.2.2.2.1
def dX12_init_123 := edX12_init_93.2.2.2.2.2.2.2.2.2.2.2.2.2.2.2
theorem edX12_init_125 : (decode cX12_init 125 = .ok (.newarray .int, 2)) ∧ (decode cX12_init 127 = .ok (.putfield 56, 3)) ∧ (decode cX12_init 130 = .ok (.aload_n 0, 1)) ∧ (decode cX12_init 131 = .ok (.bipush 30, 2)) ∧ (decode cX12_init 133 = .ok (.newarray .int, 2)) ∧ (decode cX12_init 135 = .ok (.putfield 59, 3)) ∧ (decode cX12_init 138 = .ok (.aload_n 0, 1)) ∧ (decode cX12_init 139 = .ok (.bipush 30, 2)) ∧ (decode cX12_init 141 = .ok (.newarray .int, 2)) ∧ (decode cX12_init 143 = .ok (.putfield 62, 3)) ∧ (decode cX12_init 146 = .ok (.aload_n 0, 1)) ∧ (decode cX12_init 147 = .ok (.bipush 30, 2)) ∧ (decode cX12_init 149 = .ok (.newarray .int, 2)) ∧ (decode cX12_init 151 = .ok (.putfield 65, 3)) ∧ (decode cX12_init 154 = .ok (.aload_n 0, 1)) ∧ (decode cX12_init 155 = .ok (.bipush 30, 2)) := by decide +kernel
def dX12_init_125 := edX12_init_125.1
def dX12_init_127 := edX12_init_125.2.1
def dX12_init_130 := edX12_init_125.2.2.1
def dX12_init_131 := edX12_init_125.2.2.2.1
def dX12_init_133 := edX12_init_125.2.2.2.2.1
def dX12_init_135 := edX12_init_125.2.2.2.2.2.1
def dX12_init_138 := edX12_init_125.2.2.2.2.2.2.1
def dX12_init_139 := edX12_init_125.2.2.2.2.2.2.2.1
def dX12_init_141 := edX12_init_125.2.2.2.2.2.2.2.2.1
def dX12_init_143 := edX12_init_125.2.2.2.2.2.2.2.2.2.1
def dX12_init_146 := edX12_init_125.2.2.2.2.2.2.2.2.2.2.1
def dX12_init_147 := edX12_init_125.2.2.2.2.2.2.2.2.2.2.2.1
def dX12_init_149 := edX12_init_125.2.2.2.2.2.2.2.2.2.2.2.2.1
def dX12_init_151 := edX12_init_125.2.2.2.2.2.2.2.2.2.2.2.2.2.1
def dX12_init_154 := edX12_init_125.2.2.2.2.2.2.2.2.2.2.2.2.2.2.1
def dX12_init_155 := edX12_init_125.2.2.2.2.2.2.2.2.2.2.2.2.2.2.2
theorem edX12_init_157 : (decode cX12_init 157 = .ok (.newarray .int, 2)) ∧ (decode cX12_init 159 = .ok (.putfield 68, 3)) ∧ (decode cX12_init 162 = .ok (.aload_n 0, 1)) ∧ (decode cX12_init 163 = .ok (.bipush 6, 2)) ∧ (decode cX12_init 165 = .ok (.newarray .int, 2)) ∧ (decode cX12_init 167 = .ok (.putfield 71, 3)) ∧ (decode cX12_init 170 = .ok (.aload_n 0, 1)) ∧ (decode cX12_init 171 = .ok (.bipush 6, 2)) ∧ (decode cX12_init 173 = .ok (.newarray .int, 2)) ∧ (decode cX12_init 175 = .ok (.putfield 74, 3)) ∧ (decode cX12_init 178 = .ok (.aload_n 0, 1)) ∧ (decode cX12_init 179 = .ok (.bipush 6, 2)) ∧ (decode cX12_init 181 = .ok (.newarray .int, 2)) ∧ (decode cX12_init 183 = .ok (.putfield 77, 3)) ∧ (decode cX12_init 186 = .ok (.aload_n 0, 1)) ∧ (decode cX12_init 187 = .ok (.bipush 6, 2)) := by decide +kernel
def dX12_init_157 := edX12_init_157.1
def dX12_init_159 := edX12_init_157.2.1
def dX12_init_162 := edX12_init_157.2.2.1
def dX12_init_163 := edX12_init_157.2.2.2.1
def dX12_init_165 := edX12_init_157.2.2.2.2.1
def dX12_init_167 := edX12_init_157.2.2.2.2.2.1
def dX12_init_170 := edX12_init_157.2.2.2.2.2.2.1
def dX12_init_171 := edX12_init_157.2.2.2.2.2.2.2.1
def dX12_init_173 := edX12_init_157.2.2.2.2.2.2.2.2.1
def dX12_init_175 := edX12_init_157.2.2.2.2.2.2.2.2.2.1
def dX12_init_178 := edX12_init_157.2.2.2.2.2.2.2.2.2.2.1
def dX12_init_179 := edX12_init_157.2.2.2.2.2.2.2.2.2.2.2.1
def dX12_init_181 := edX12_init_157.2.2.2.2.2.2.2.2.2.2.2.2.1
def dX12_init_183 := edX12_init_157.2.2.2.2.2.2.2.2.2.2.2.2.2.1
def dX12_init_186 := edX12_init_157.2.2.2.2.2.2.2.2.2.2.2.2.2.2.1
def dX12_init_187 := edX12_init_157.2.2.2.2.2.2.2.2.2.2.2.2.2.2.2
theorem edX12_init_189 : (decode cX12_init 189 = .ok (.newarray .int, 2)) ∧ (decode cX12_init 191 = .ok (.putfield 80, 3)) ∧ (decode cX12_init 194 = .ok (.aload_n 0, 1)) ∧ (decode cX12_init 195 = .ok (.bipush 6, 2)) ∧ (decode cX12_init 197 = .ok (.newarray .int, 2)) ∧ (decode cX12_init 199 = .ok (.putfield 83, 3)) ∧ (decode cX12_init 202 = .ok (.aload_n 0, 1)) ∧ (decode cX12_init 203 = .ok (.bipush 6, 2)) ∧ (decode cX12_init 205 = .ok (.newarray .int, 2)) ∧ (decode cX12_init 207 = .ok (.putfield 86, 3)) ∧ (decode cX12_init 210 = .ok (.aload_n 0, 1)) ∧ (decode cX12_init 211 = .ok (.bipush 6, 2)) ∧ (decode cX12_init 213 = .ok (.newarray .int, 2)) ∧ (decode cX12_init 215 = .ok (.putfield 89, 3)) ∧ (decode cX12_init 218 = .ok (.aload_n 0, 1)) ∧ (decode cX12_init 219 = .ok (.bipush 6, 2)) := by decide +kernel
def dX12_init_189 := edX12_init_189.1
def dX12_init_191 := edX12_init_189.2.1
def dX12_init_194 := edX12_init_189.2.2.1
def dX12_init_195 := edX12_init_189.2.2.2.1
def dX12_init_197 := edX12_init_189.2.2.2.2.1
def dX12_init_199 := edX12_init_189.2.2.2.2.2.1
def dX12_init_202 := edX12_init_189.2.2.2.2.2.2.1
def dX12_init_203 := edX12_init_189.2.2.2.2.2.2.2.1
def dX12_init_205 := edX12_init_189.2.2.2.2.2.2.2.2.1
def dX12_init_207 := edX12_init_189.2.2.2.2.2.2.2.2.2.1
def dX12_init_210 := edX12_init_189.2.2.2.2.2.2.2.2.2.2.1
def dX12_init_211 := edX12_init_189.2.2.2.2.2.2.2.2.2.2.2.1
def dX12_init_213 := edX12_init_189.2.2.2.2.2.2.2.2.2.2.2.2.1
def dX12_init_215 := edX12_init_189.2.2.2.2.2.2.2.2.2.2.2.2.2.1
def dX12_init_218 := edX12_init_189.2.2.2.2.2.2.2.2.2.2.2.2.2.2.1
def dX12_init_219 := edX12_init_189.2.2.2.2.2.2.2.2.2.2.2.2.2.2.2
theorem edX12_init_221 : (decode cX12_init 221 = .ok (.newarray .boolean, 2)) ∧ (decode cX12_init 223 = .ok (.putfield 92, 3)) ∧ (decode cX12_init 226 = .ok (.aload_n 0, 1)) ∧ (decode cX12_init 227 = .ok (.bipush 20, 2)) ∧ (decode cX12_init 229 = .ok (.newarray .int, 2)) ∧ (decode cX12_init 231 = .ok (.putfield 95, 3)) ∧ (decode cX12_init 234 = .ok (.aload_n 0, 1)) ∧ (decode cX12_init 235 = .ok (.bipush 20, 2)) ∧ (decode cX12_init 237 = .ok (.newarray .int, 2)) ∧ (decode cX12_init 239 = .ok (.putfield 98, 3)) ∧ (decode cX12_init 242 = .ok (.aload_n 0, 1)) ∧ (decode cX12_init 243 = .ok (.bipush 20, 2)) ∧ (decode cX12_init 245 = .ok (.newarray .int, 2)) ∧ (decode cX12_init 247 = .ok (.putfield 101, 3)) ∧ (decode cX12_init 250 = .ok (.aload_n 0, 1)) ∧ (decode cX12_init 251 = .ok (.bipush 6, 2)) := by decide +kernel
def dX12_init_221 := edX12_init_221.1
def dX12_init_223 := edX12_init_221.2.1
def dX12_init_226 := edX12_init_221.2.2.1
def dX12_init_227 := edX12_init_221.2.2.2.1
def dX12_init_229 := edX12_init_221.2.2.2.2.1
def dX12_init_231 := edX12_init_221.2.2.2.2.2.1
def dX12_init_234 := edX12_init_221.2.2.2.2.2.2.1
def dX12_init_235 := edX12_init_221.2.2.2.2.2.2.2.1
def dX12_init_237 := edX12_init_221.2.2.2.2.2.2.2.2.1
def dX12_init_239 := edX12_init_221.2.2.2.2.2.2.2.2.2.1
def dX12_init_242 := edX12_init_221.2.2.2.2.2.2.2.2.2.2.1
def dX12_init_243 := edX12_init_221.2.2.2.2.2.2.2.2.2.2.2.1
def dX12_init_245 := edX12_init_221.2.2.2.2.2.2.2.2.2.2.2.2.1
def dX12_init_247 := edX12_init_221.2.2.2.2.2.2.2.2.2.2.2.2.2.1
def dX12_init_250 := edX12_init_221.2.2.2.2.2.2.2.2.2.2.2.2.2.2.1
def dX12_init_251 := edX12_init_221.2.2.2.2.2.2.2.2.2.2.2.2.2.2.2
theorem edX12_init_253 : (decode cX12_init 253 = .ok (.newarray .int, 2)) ∧ (decode cX12_init 255 = .ok (.putfield 104, 3)) ∧ (decode cX12_init 258 = .ok (.aload_n 0, 1)) ∧ (decode cX12_init 259 = .ok (.bipush 6, 2)) ∧ (decode cX12_init 261 = .ok (.newarray .int, 2)) ∧ (decode cX12_init 263 = .ok (.putfield 107, 3)) ∧ (decode cX12_init 266 = .ok (.aload_n 0, 1)) ∧ (decode cX12_init 267 = .ok (.bipush 6, 2)) ∧ (decode cX12_init 269 = .ok (.newarray .int, 2)) ∧ (decode cX12_init 271 = .ok (.putfield 110, 3)) ∧ (decode cX12_init 274 = .ok (.aload_n 0, 1)) ∧ (decode cX12_init 275 = .ok (.bipush 6, 2)) ∧ (decode cX12_init 277 = .ok (.newarray .int, 2)) ∧ (decode cX12_init 279 = .ok (.putfield 113, 3)) ∧ (decode cX12_init 282 = .ok (.aload_n 0, 1)) ∧ (decode cX12_init 283 = .ok (.bipush 6, 2)) := by decide +kernel
def dX12_init_253 := edX12_init_253.1
def dX12_init_255 := edX12_init_253.2.1
def dX12_init_258 := edX12_init_253.2.2.1
def dX12_init_259 := edX12_init_253.2.2.2.1
def dX12_init_261 := edX12_init_253.2.2.2.2.1
def dX12_init_263 := edX12_init_253.2.2.2.2.2.1
def dX12_init_266 := edX12_init_253.2.2.2.2.2.2.1
def dX12_init_267 := edX12_init_253.2.2.2.2.2.2.2.1
def dX12_init_269 := edX12_init_253.2.2.2.2.2.2.2.2.1
def dX12_init_271 := edX12_init_253.2.2.2.2.2.2.2.2.2.1
def dX12_init_274 := edX12_init_253.2.2.2.2.2.2.2.2.2.2.1
def dX12_init_275 := edX12_init_253.2.2.2.2.2.2.2.2.2.2.2.1
def dX12_init_277 := edX12_init_253.2.2.2.2.2.2.2.2.2.2.2.2.1
def dX12_init_279 := edX12_init_253.2.2.2.2.2.2.2.2.2.2.2.2.2.1
def dX12_init_282 := edX12_init_253.2.2.2.2.2.2.2.2.2.2.2.2.2.2.1
def dX12_init_283 := edX12_init_253.2.2.2.2.2.2.2.2.2.2.2.2.2.2.2
theorem edX12_init_285 : (decode cX12_init 285 = .ok (.newarray .int, 2)) ∧ (decode cX12_init 287 = .ok (.putfield 116, 3)) ∧ (decode cX12_init 290 = .ok (.aload_n 0, 1)) ∧ (decode cX12_init 291 = .ok (.bipush 6, 2)) ∧ (decode cX12_init 293 = .ok (.newarray .boolean, 2)) ∧ (decode cX12_init 295 = .ok (.putfield 119, 3)) ∧ (decode cX12_init 298 = .ok (.aload_n 0, 1)) ∧ (decode cX12_init 299 = .ok (.bipush 6, 2)) ∧ (decode cX12_init 301 = .ok (.newarray .int, 2)) ∧ (decode cX12_init 303 = .ok (.putfield 122, 3)) ∧ (decode cX12_init 306 = .ok (.aload_n 0, 1)) ∧ (decode cX12_init 307 = .ok (.iconst 3, 1)) ∧ (decode cX12_init 308 = .ok (.newarray .long, 2)) ∧ (decode cX12_init 310 = .ok (.putfield 125, 3)) ∧ (decode cX12_init 313 = .ok (.aload_n 0, 1)) ∧ (decode cX12_init 314 = .ok (.bipush 100, 2)) := by decide +kernel
def dX12_init_285 := edX12_init_285.1
def dX12_init_287 := edX12_init_285.2.1
def dX12_init_290 := edX12_init_285.2.2.1
def dX12_init_291 := edX12_init_285.2.2.2.1
def dX12_init_293 := edX12_init_285.2.2.2.2.1
def dX12_init_295 := edX12_init_285.2.2.2.2.2.1
def dX12_init_298 := edX12_init_285.2.2.2.2.2.2.1
def dX12_init_299 := edX12_init_285.2.2.2.2.2.2.2.1
def dX12_init_301 := edX12_init_285.2.2.2.2.2.2.2.2.1
def dX12_init_303 := edX12_init_285.2.2.2.2.2.2.2.2.2.1
def dX12_init_306 := edX12_init_285.2.2.2.2.2.2.2.2.2.2.1
def dX12_init_307 := edX12_init_285.2.2.2.2.2.2.2.2.2.2.2.1
def dX12_init_308 := edX12_init_285.2.2.2.2.2.2.2.2.2.2.2.2.1
def dX12_init_310 := edX12_init_285.2.2.2.2.2.2.2.2.2.2.2.2.2.1
def dX12_init_313 := edX12_init_285.2.2.2.2.2.2.2.2.2.2.2.2.2.2.1
def dX12_init_314 := edX12_init_285.2.2.2.2.2.2.2.2.2.2.2.2.2.2.2
theorem edX12_init_316 : (decode cX12_init 316 = .ok (.putfield 129, 3)) ∧ (decode cX12_init 319 = .ok (.aload_n 0, 1)) ∧ (decode cX12_init 320 = .ok (.iconst 1, 1)) ∧ (decode cX12_init 321 = .ok (.putfield 133, 3)) ∧ (decode cX12_init 324 = .ok (.aload_n 0, 1)) ∧ (decode cX12_init 325 = .ok (.iconst 0, 1)) ∧ (decode cX12_init 326 = .ok (.putfield 136, 3)) ∧ (decode cX12_init 329 = .ok (.iconst 0, 1)) ∧ (decode cX12_init 330 = .ok (.istore_n 1, 1)) ∧ (decode cX12_init 331 = .ok (.iload_n 1, 1)) ∧ (decode cX12_init 332 = .ok (.iconst 4, 1)) ∧ (decode cX12_init 333 = .ok (.if_icmp .ge 16, 3)) ∧ (decode cX12_init 336 = .ok (.aload_n 0, 1)) ∧ (decode cX12_init 337 = .ok (.getfield 7, 3)) ∧ (decode cX12_init 340 = .ok (.iload_n 1, 1)) ∧ (decode cX12_init 341 = .ok (.iconst (-1), 1)) := by decide +kernel
def dX12_init_316 := edX12_init_316.1
def dX12_init_319 := edX12_init_316.2.1
def dX12_init_320 := edX12_init_316.2.2.1
def dX12_init_321 := edX12_init_316.2.2.2.1
def dX12_init_324 := edX12_init_316.2.2.2.2.1
def dX12_init_325 := edX12_init_316.2.2.2.2.2.1
def dX12_init_326 := edX12_init_316.2.2.2.2.2.2.1
def dX12_init_329 := edX12_init_316.2.2.2.2.2.2.2.1
def dX12_init_330 := edX12_init_316.2.2.2.2.2.2.2.2.1
def dX12_init_331 := edX12_init_316.2.2.2.2.2.2.2.2.2.1
def dX12_init_332 := edX12_init_316.2.2.2.2.2.2.2.2.2.2.1
def dX12_init_333 := edX12_init_316.2.2.2.2.2.2.2.2.2.2.2.1
def dX12_init_336 := edX12_init_316.2.2.2.2.2.2.2.2.2.2.2.2.1
def dX12_init_337 := edX12_init_316.2.2.2.2.2.2.2.2.2.2.2.2.2.1
def dX12_init_340 := edX12_init_316.2.2.2.2.2.2.2.2.2.2.2.2.2.2.1
def dX12_init_341 := edX12_init_316.2.2.2.2.2.2.2.2.2.2.2.2.2.2.2
theorem edX12_init_342 : (decode cX12_init 342 = .ok (.iastore, 1)) ∧ (decode cX12_init 343 = .ok (.iinc 1 1, 3)) ∧ (decode cX12_init 346 = .ok (.goto (-15), 3)) ∧ (decode cX12_init 349 = .ok (.return_, 1)) := by decide +kernel
def dX12_init_342 := edX12_init_342.1
def dX12_init_343 := edX12_init_342.2.1
def dX12_init_346 := edX12_init_342.2.2.1
def dX12_init_349 := edX12_init_342.2.2.2
theorem edX12_in_0 : (decode cX12_in 0 = .ok (.lload_n 0, 1)) ∧ (decode cX12_in 1 = .ok (.lload_n 2, 1)) ∧ (decode cX12_in 2 = .ok (.lcmp, 1)) ∧ (decode cX12_in 3 = .ok (.ifCond .lt 14, 3)) ∧ (decode cX12_in 6 = .ok (.lload_n 0, 1)) ∧ (decode cX12_in 7 = .ok (.lload 4, 2)) ∧ (decode cX12_in 9 = .ok (.lcmp, 1)) ∧ (decode cX12_in 10 = .ok (.ifCond .gt 7, 3)) ∧ (decode cX12_in 13 = .ok (.iconst 1, 1)) ∧ (decode cX12_in 14 = .ok (.goto 4, 3)) ∧ (decode cX12_in 17 = .ok (.iconst 0, 1)) ∧ (decode cX12_in 18 = .ok (.ireturn, 1)) := by decide +kernel
def dX12_in_0 := edX12_in_0.1
def dX12_in_1 := edX12_in_0.2.1
def dX12_in_2 := edX12_in_0.2.2.1
def dX12_in_3 := edX12_in_0.2.2.2.1
def dX12_in_6 := edX12_in_0.2.2.2.2.1
def dX12_in_7 := edX12_in_0.2.2.2.2.2.1
def dX12_in_9 := edX12_in_0.2.2.2.2.2.2.1
def dX12_in_10 := edX12_in_0.2.2.2.2.2.2.2.1
def dX12_in_13 := edX12_in_0.2.2.2.2.2.2.2.2.1
def dX12_in_14 := edX12_in_0.2.2.2.2.2.2.2.2.2.1
def dX12_in_17 := edX12_in_0.2.2.2.2.2.2.2.2.2.2.1
def dX12_in_18 := edX12_in_0.2.2.2.2.2.2.2.2.2.2.2
theorem edX12_lost_0 : (decode cX12_lost 0 = .ok (.ldc2_w 139, 3)) ∧ (decode cX12_lost 3 = .ok (.lreturn, 1)) := by decide +kernel
def dX12_lost_0 := edX12_lost_0.1
def dX12_lost_3 := edX12_lost_0.2
theorem edX12_refused_0 : (decode cX12_refused 0 = .ok (.aload_n 0, 1)) ∧ (decode cX12_refused 1 = .ok (.iconst 0, 1)) ∧ (decode cX12_refused 2 = .ok (.putfield 141, 3)) ∧ (decode cX12_refused 5 = .ok (.iload_n 1, 1)) ∧ (decode cX12_refused 6 = .ok (.ireturn, 1)) := by decide +kernel
def dX12_refused_0 := edX12_refused_0.1
def dX12_refused_1 := edX12_refused_0.2.1
def dX12_refused_2 := edX12_refused_0.2.2.1
def dX12_refused_5 := edX12_refused_0.2.2.2.1
def dX12_refused_6 := edX12_refused_0.2.2.2.2
theorem edX12_failed_0 : (decode cX12_failed 0 = .ok (.aload_n 0, 1)) ∧ (decode cX12_failed 1 = .ok (.iload_n 1, 1)) ∧ (decode cX12_failed 2 = .ok (.putfield 141, 3)) ∧ (decode cX12_failed 5 = .ok (.bipush (-10), 2)) ∧ (decode cX12_failed 7 = .ok (.iload_n 1, 1)) ∧ (decode cX12_failed 8 = .ok (.isub, 1)) ∧ (decode cX12_failed 9 = .ok (.ireturn, 1)) := by decide +kernel
def dX12_failed_0 := edX12_failed_0.1
def dX12_failed_1 := edX12_failed_0.2.1
def dX12_failed_2 := edX12_failed_0.2.2.1
def dX12_failed_5 := edX12_failed_0.2.2.2.1
def dX12_failed_7 := edX12_failed_0.2.2.2.2.1
def dX12_failed_8 := edX12_failed_0.2.2.2.2.2.1
def dX12_failed_9 := edX12_failed_0.2.2.2.2.2.2
set_option maxRecDepth 100000 in
theorem ggX12_failedLong_X12_lost : GoodIn wsX12_failedLong wsX12_lost := goodIn_s _ [6] [5] (by decide +kernel) rfl (by decide +kernel)
set_option maxRecDepth 20000 in
theorem gX12_failedLong_X12_lost : GoodIn wsX12_failedLong (va_wsS RX12 144 yX12_lost wsX12_lost) := goodIn_app (goodIn_of _ (by decide +kernel)) ggX12_failedLong_X12_lost
theorem edX12_failedLong_0 : (decode cX12_failedLong 0 = .ok (.aload_n 0, 1)) ∧ (decode cX12_failedLong 1 = .ok (.iload_n 1, 1)) ∧ (decode cX12_failedLong 2 = .ok (.putfield 141, 3)) ∧ (decode cX12_failedLong 5 = .ok (.invokestatic 144, 3)) ∧ (decode cX12_failedLong 8 = .ok (.lreturn, 1)) := by decide +kernel
def dX12_failedLong_0 := edX12_failedLong_0.1
def dX12_failedLong_1 := edX12_failedLong_0.2.1
def dX12_failedLong_2 := edX12_failedLong_0.2.2.1
def dX12_failedLong_5 := edX12_failedLong_0.2.2.2.1
def dX12_failedLong_8 := edX12_failedLong_0.2.2.2.2
theorem edX12_lesser_0 : (decode cX12_lesser 0 = .ok (.iload_n 0, 1)) ∧ (decode cX12_lesser 1 = .ok (.iload_n 1, 1)) ∧ (decode cX12_lesser 2 = .ok (.if_icmp .ge 7, 3)) ∧ (decode cX12_lesser 5 = .ok (.iload_n 0, 1)) ∧ (decode cX12_lesser 6 = .ok (.goto 4, 3)) ∧ (decode cX12_lesser 9 = .ok (.iload_n 1, 1)) ∧ (decode cX12_lesser 10 = .ok (.ireturn, 1)) := by decide +kernel
def dX12_lesser_0 := edX12_lesser_0.1
def dX12_lesser_1 := edX12_lesser_0.2.1
def dX12_lesser_2 := edX12_lesser_0.2.2.1
def dX12_lesser_5 := edX12_lesser_0.2.2.2.1
def dX12_lesser_6 := edX12_lesser_0.2.2.2.2.1
def dX12_lesser_9 := edX12_lesser_0.2.2.2.2.2.1
def dX12_lesser_10 := edX12_lesser_0.2.2.2.2.2.2
set_option maxRecDepth 100000 in
theorem ggX12_noSheet_X12_in : GoodIn wsX12_noSheet wsX12_in := goodIn_s _ [] [5] (by decide +kernel) rfl (by decide +kernel)
set_option maxRecDepth 20000 in
theorem gX12_noSheet_X12_in : GoodIn wsX12_noSheet (va_wsS RX12 150 yX12_in wsX12_in) := goodIn_app (goodIn_of _ (by decide +kernel)) ggX12_noSheet_X12_in
theorem edX12_noSheet_0 : (decode cX12_noSheet 0 = .ok (.iload_n 0, 1)) ∧ (decode cX12_noSheet 1 = .ok (.i2l, 1)) ∧ (decode cX12_noSheet 2 = .ok (.lconst 0, 1)) ∧ (decode cX12_noSheet 3 = .ok (.ldc2_w 148, 3)) ∧ (decode cX12_noSheet 6 = .ok (.invokestatic 150, 3)) ∧ (decode cX12_noSheet 9 = .ok (.ifCond .ne 7, 3)) ∧ (decode cX12_noSheet 12 = .ok (.iconst 1, 1)) ∧ (decode cX12_noSheet 13 = .ok (.goto 4, 3)) ∧ (decode cX12_noSheet 16 = .ok (.iconst 0, 1)) ∧ (decode cX12_noSheet 17 = .ok (.ireturn, 1)) := by decide +kernel
def dX12_noSheet_0 := edX12_noSheet_0.1
def dX12_noSheet_1 := edX12_noSheet_0.2.1
def dX12_noSheet_2 := edX12_noSheet_0.2.2.1
def dX12_noSheet_3 := edX12_noSheet_0.2.2.2.1
def dX12_noSheet_6 := edX12_noSheet_0.2.2.2.2.1
def dX12_noSheet_9 := edX12_noSheet_0.2.2.2.2.2.1
def dX12_noSheet_12 := edX12_noSheet_0.2.2.2.2.2.2.1
def dX12_noSheet_13 := edX12_noSheet_0.2.2.2.2.2.2.2.1
def dX12_noSheet_16 := edX12_noSheet_0.2.2.2.2.2.2.2.2.1
def dX12_noSheet_17 := edX12_noSheet_0.2.2.2.2.2.2.2.2.2
set_option maxRecDepth 100000 in
theorem ggX12_sheet_X12_noSheet : GoodIn wsX12_sheet wsX12_noSheet := goodIn_s _ [9, 10, 11, 7] [8, 12] (by decide +kernel) rfl (by decide +kernel)
set_option maxRecDepth 20000 in
theorem gX12_sheet_X12_noSheet : GoodIn wsX12_sheet (va_wsS RX12 154 yX12_noSheet wsX12_noSheet) := goodIn_app (goodIn_of _ (by decide +kernel)) ggX12_sheet_X12_noSheet
set_option maxRecDepth 100000 in
theorem ggX12_sheet_X12_refused : GoodIn wsX12_sheet wsX12_refused := goodIn_ca (b := wsX120) (goodIn_s _ [17] [16] (by decide +kernel) rfl (by decide +kernel)) (goodIn_sub (fun w h => List.mem_cons_of_mem _ (List.mem_append_right _ h)) gs_wsX120)
set_option maxRecDepth 20000 in
theorem gX12_sheet_X12_refused : GoodIn wsX12_sheet (wsV RX12 158 RX12 yX12_refused wsX12_refused) := goodIn_app (goodIn_of _ (by decide +kernel)) ggX12_sheet_X12_refused
set_option maxRecDepth 100000 in
theorem ggX12_sheet_X12_in : GoodIn wsX12_sheet wsX12_in := goodIn_s _ [] [12] (by decide +kernel) rfl (by decide +kernel)
set_option maxRecDepth 20000 in
theorem gX12_sheet_X12_in : GoodIn wsX12_sheet (va_wsS RX12 150 yX12_in wsX12_in) := goodIn_app (goodIn_of _ (by decide +kernel)) ggX12_sheet_X12_in
set_option maxRecDepth 100000 in
theorem ggX12_sheet_X12_failed : GoodIn wsX12_sheet wsX12_failed := goodIn_ca (b := wsX120) (goodIn_s _ [17] [21] (by decide +kernel) rfl (by decide +kernel)) (goodIn_sub (fun w h => List.mem_cons_of_mem _ (List.mem_append_right _ h)) gs_wsX120)
set_option maxRecDepth 20000 in
theorem gX12_sheet_X12_failed : GoodIn wsX12_sheet (wsV RX12 164 RX12 yX12_failed wsX12_failed) := goodIn_app (goodIn_of _ (by decide +kernel)) ggX12_sheet_X12_failed
theorem edX12_sheet_0 : (decode cX12_sheet 0 = .ok (.iload_n 1, 1)) ∧ (decode cX12_sheet 1 = .ok (.invokestatic 154, 3)) ∧ (decode cX12_sheet 4 = .ok (.ifCond .eq 9, 3)) ∧ (decode cX12_sheet 7 = .ok (.aload_n 0, 1)) ∧ (decode cX12_sheet 8 = .ok (.iconst (-1), 1)) ∧ (decode cX12_sheet 9 = .ok (.invokevirtual 158, 3)) ∧ (decode cX12_sheet 12 = .ok (.ireturn, 1)) ∧ (decode cX12_sheet 13 = .ok (.iload_n 2, 1)) ∧ (decode cX12_sheet 14 = .ok (.i2l, 1)) ∧ (decode cX12_sheet 15 = .ok (.lconst 0, 1)) ∧ (decode cX12_sheet 16 = .ok (.ldc2_w 162, 3)) ∧ (decode cX12_sheet 19 = .ok (.invokestatic 150, 3)) ∧ (decode cX12_sheet 22 = .ok (.ifCond .eq 9, 3)) ∧ (decode cX12_sheet 25 = .ok (.iload_n 3, 1)) ∧ (decode cX12_sheet 26 = .ok (.bipush 20, 2)) ∧ (decode cX12_sheet 28 = .ok (.if_icmp .le 10, 3)) := by decide +kernel
def dX12_sheet_0 := edX12_sheet_0.1
def dX12_sheet_1 := edX12_sheet_0.2.1
def dX12_sheet_4 := edX12_sheet_0.2.2.1
def dX12_sheet_7 := edX12_sheet_0.2.2.2.1
def dX12_sheet_8 := edX12_sheet_0.2.2.2.2.1
def dX12_sheet_9 := edX12_sheet_0.2.2.2.2.2.1
def dX12_sheet_12 := edX12_sheet_0.2.2.2.2.2.2.1
def dX12_sheet_13 := edX12_sheet_0.2.2.2.2.2.2.2.1
def dX12_sheet_14 := edX12_sheet_0.2.2.2.2.2.2.2.2.1
def dX12_sheet_15 := edX12_sheet_0.2.2.2.2.2.2.2.2.2.1
def dX12_sheet_16 := edX12_sheet_0.2.2.2.2.2.2.2.2.2.2.1
def dX12_sheet_19 := edX12_sheet_0.2.2.2.2.2.2.2.2.2.2.2.1
def dX12_sheet_22 := edX12_sheet_0.2.2.2.2.2.2.2.2.2.2.2.2.1
def dX12_sheet_25 := edX12_sheet_0.2.2.2.2.2.2.2.2.2.2.2.2.2.1
def dX12_sheet_26 := edX12_sheet_0.2.2.2.2.2.2.2.2.2.2.2.2.2.2.1
def dX12_sheet_28 := edX12_sheet_0.2.2.2.2.2.2.2.2.2.2.2.2.2.2.2
theorem edX12_sheet_31 : (decode cX12_sheet 31 = .ok (.aload_n 0, 1)) ∧ (decode cX12_sheet 32 = .ok (.bipush (-2), 2)) ∧ (decode cX12_sheet 34 = .ok (.invokevirtual 158, 3)) ∧ (decode cX12_sheet 37 = .ok (.ireturn, 1)) ∧ (decode cX12_sheet 38 = .ok (.iload_n 3, 1)) ∧ (decode cX12_sheet 39 = .ok (.ifCond .ge 9, 3)) ∧ (decode cX12_sheet 42 = .ok (.aload_n 0, 1)) ∧ (decode cX12_sheet 43 = .ok (.iconst 4, 1)) ∧ (decode cX12_sheet 44 = .ok (.invokevirtual 164, 3)) ∧ (decode cX12_sheet 47 = .ok (.ireturn, 1)) ∧ (decode cX12_sheet 48 = .ok (.aload_n 0, 1)) ∧ (decode cX12_sheet 49 = .ok (.getfield 7, 3)) ∧ (decode cX12_sheet 52 = .ok (.iload_n 1, 1)) ∧ (decode cX12_sheet 53 = .ok (.iload_n 3, 1)) ∧ (decode cX12_sheet 54 = .ok (.iastore, 1)) ∧ (decode cX12_sheet 55 = .ok (.aload_n 0, 1)) := by decide +kernel
def dX12_sheet_31 := edX12_sheet_31.1
def dX12_sheet_32 := edX12_sheet_31.2.1
def dX12_sheet_34 := edX12_sheet_31.2.2.1
def dX12_sheet_37 := edX12_sheet_31.2.2.2.1
def dX12_sheet_38 := edX12_sheet_31.2.2.2.2.1
def dX12_sheet_39 := edX12_sheet_31.2.2.2.2.2.1
def dX12_sheet_42 := edX12_sheet_31.2.2.2.2.2.2.1
def dX12_sheet_43 := edX12_sheet_31.2.2.2.2.2.2.2.1
def dX12_sheet_44 := edX12_sheet_31.2.2.2.2.2.2.2.2.1
def dX12_sheet_47 := edX12_sheet_31.2.2.2.2.2.2.2.2.2.1
def dX12_sheet_48 := edX12_sheet_31.2.2.2.2.2.2.2.2.2.2.1
def dX12_sheet_49 := edX12_sheet_31.2.2.2.2.2.2.2.2.2.2.2.1
def dX12_sheet_52 := edX12_sheet_31.2.2.2.2.2.2.2.2.2.2.2.2.1
def dX12_sheet_53 := edX12_sheet_31.2.2.2.2.2.2.2.2.2.2.2.2.2.1
def dX12_sheet_54 := edX12_sheet_31.2.2.2.2.2.2.2.2.2.2.2.2.2.2.1
def dX12_sheet_55 := edX12_sheet_31.2.2.2.2.2.2.2.2.2.2.2.2.2.2.2
theorem edX12_sheet_56 : (decode cX12_sheet 56 = .ok (.getfield 13, 3)) ∧ (decode cX12_sheet 59 = .ok (.iload_n 1, 1)) ∧ (decode cX12_sheet 60 = .ok (.iload_n 2, 1)) ∧ (decode cX12_sheet 61 = .ok (.iastore, 1)) ∧ (decode cX12_sheet 62 = .ok (.iconst 0, 1)) ∧ (decode cX12_sheet 63 = .ok (.istore 4, 2)) ∧ (decode cX12_sheet 65 = .ok (.iload 4, 2)) ∧ (decode cX12_sheet 67 = .ok (.iload_n 3, 1)) ∧ (decode cX12_sheet 68 = .ok (.if_icmp .ge 22, 3)) ∧ (decode cX12_sheet 71 = .ok (.aload_n 0, 1)) ∧ (decode cX12_sheet 72 = .ok (.getfield 16, 3)) ∧ (decode cX12_sheet 75 = .ok (.bipush 20, 2)) ∧ (decode cX12_sheet 77 = .ok (.iload_n 1, 1)) ∧ (decode cX12_sheet 78 = .ok (.imul, 1)) ∧ (decode cX12_sheet 79 = .ok (.iload 4, 2)) ∧ (decode cX12_sheet 81 = .ok (.iadd, 1)) := by decide +kernel
def dX12_sheet_56 := edX12_sheet_56.1
def dX12_sheet_59 := edX12_sheet_56.2.1
def dX12_sheet_60 := edX12_sheet_56.2.2.1
def dX12_sheet_61 := edX12_sheet_56.2.2.2.1
def dX12_sheet_62 := edX12_sheet_56.2.2.2.2.1
def dX12_sheet_63 := edX12_sheet_56.2.2.2.2.2.1
def dX12_sheet_65 := edX12_sheet_56.2.2.2.2.2.2.1
def dX12_sheet_67 := edX12_sheet_56.2.2.2.2.2.2.2.1
def dX12_sheet_68 := edX12_sheet_56.2.2.2.2.2.2.2.2.1
def dX12_sheet_71 := edX12_sheet_56.2.2.2.2.2.2.2.2.2.1
def dX12_sheet_72 := edX12_sheet_56.2.2.2.2.2.2.2.2.2.2.1
def dX12_sheet_75 := edX12_sheet_56.2.2.2.2.2.2.2.2.2.2.2.1
def dX12_sheet_77 := edX12_sheet_56.2.2.2.2.2.2.2.2.2.2.2.2.1
def dX12_sheet_78 := edX12_sheet_56.2.2.2.2.2.2.2.2.2.2.2.2.2.1
def dX12_sheet_79 := edX12_sheet_56.2.2.2.2.2.2.2.2.2.2.2.2.2.2.1
def dX12_sheet_81 := edX12_sheet_56.2.2.2.2.2.2.2.2.2.2.2.2.2.2.2
theorem edX12_sheet_82 : (decode cX12_sheet 82 = .ok (.iconst 0, 1)) ∧ (decode cX12_sheet 83 = .ok (.iastore, 1)) ∧ (decode cX12_sheet 84 = .ok (.iinc 4 1, 3)) ∧ (decode cX12_sheet 87 = .ok (.goto (-22), 3)) ∧ (decode cX12_sheet 90 = .ok (.aload_n 0, 1)) ∧ (decode cX12_sheet 91 = .ok (.iconst 1, 1)) ∧ (decode cX12_sheet 92 = .ok (.invokevirtual 158, 3)) ∧ (decode cX12_sheet 95 = .ok (.ireturn, 1)) := by decide +kernel
def dX12_sheet_82 := edX12_sheet_82.1
def dX12_sheet_83 := edX12_sheet_82.2.1
def dX12_sheet_84 := edX12_sheet_82.2.2.1
def dX12_sheet_87 := edX12_sheet_82.2.2.2.1
def dX12_sheet_90 := edX12_sheet_82.2.2.2.2.1
def dX12_sheet_91 := edX12_sheet_82.2.2.2.2.2.1
def dX12_sheet_92 := edX12_sheet_82.2.2.2.2.2.2.1
def dX12_sheet_95 := edX12_sheet_82.2.2.2.2.2.2.2
set_option maxRecDepth 100000 in
theorem ggX12_lose_X12_noSheet : GoodIn wsX12_lose wsX12_noSheet := goodIn_s _ [6, 7, 8, 4] [5, 9] (by decide +kernel) rfl (by decide +kernel)
set_option maxRecDepth 20000 in
theorem gX12_lose_X12_noSheet : GoodIn wsX12_lose (va_wsS RX12 154 yX12_noSheet wsX12_noSheet) := goodIn_app (goodIn_of _ (by decide +kernel)) ggX12_lose_X12_noSheet
theorem edX12_lose_0 : (decode cX12_lose 0 = .ok (.iload_n 1, 1)) ∧ (decode cX12_lose 1 = .ok (.invokestatic 154, 3)) ∧ (decode cX12_lose 4 = .ok (.ifCond .eq 5, 3)) ∧ (decode cX12_lose 7 = .ok (.iconst (-1), 1)) ∧ (decode cX12_lose 8 = .ok (.ireturn, 1)) ∧ (decode cX12_lose 9 = .ok (.aload_n 0, 1)) ∧ (decode cX12_lose 10 = .ok (.getfield 7, 3)) ∧ (decode cX12_lose 13 = .ok (.iload_n 1, 1)) ∧ (decode cX12_lose 14 = .ok (.iaload, 1)) ∧ (decode cX12_lose 15 = .ok (.ifCond .ge 7, 3)) ∧ (decode cX12_lose 18 = .ok (.iconst 0, 1)) ∧ (decode cX12_lose 19 = .ok (.goto 4, 3)) ∧ (decode cX12_lose 22 = .ok (.iconst 1, 1)) ∧ (decode cX12_lose 23 = .ok (.istore_n 2, 1)) ∧ (decode cX12_lose 24 = .ok (.aload_n 0, 1)) ∧ (decode cX12_lose 25 = .ok (.getfield 7, 3)) := by decide +kernel
def dX12_lose_0 := edX12_lose_0.1
def dX12_lose_1 := edX12_lose_0.2.1
def dX12_lose_4 := edX12_lose_0.2.2.1
def dX12_lose_7 := edX12_lose_0.2.2.2.1
def dX12_lose_8 := edX12_lose_0.2.2.2.2.1
def dX12_lose_9 := edX12_lose_0.2.2.2.2.2.1
def dX12_lose_10 := edX12_lose_0.2.2.2.2.2.2.1
def dX12_lose_13 := edX12_lose_0.2.2.2.2.2.2.2.1
def dX12_lose_14 := edX12_lose_0.2.2.2.2.2.2.2.2.1
def dX12_lose_15 := edX12_lose_0.2.2.2.2.2.2.2.2.2.1
def dX12_lose_18 := edX12_lose_0.2.2.2.2.2.2.2.2.2.2.1
def dX12_lose_19 := edX12_lose_0.2.2.2.2.2.2.2.2.2.2.2.1
def dX12_lose_22 := edX12_lose_0.2.2.2.2.2.2.2.2.2.2.2.2.1
def dX12_lose_23 := edX12_lose_0.2.2.2.2.2.2.2.2.2.2.2.2.2.1
def dX12_lose_24 := edX12_lose_0.2.2.2.2.2.2.2.2.2.2.2.2.2.2.1
def dX12_lose_25 := edX12_lose_0.2.2.2.2.2.2.2.2.2.2.2.2.2.2.2
theorem edX12_lose_28 : (decode cX12_lose 28 = .ok (.iload_n 1, 1)) ∧ (decode cX12_lose 29 = .ok (.iconst (-1), 1)) ∧ (decode cX12_lose 30 = .ok (.iastore, 1)) ∧ (decode cX12_lose 31 = .ok (.iload_n 2, 1)) ∧ (decode cX12_lose 32 = .ok (.ireturn, 1)) := by decide +kernel
def dX12_lose_28 := edX12_lose_28.1
def dX12_lose_29 := edX12_lose_28.2.1
def dX12_lose_30 := edX12_lose_28.2.2.1
def dX12_lose_31 := edX12_lose_28.2.2.2.1
def dX12_lose_32 := edX12_lose_28.2.2.2.2
set_option maxRecDepth 100000 in
theorem ggX12_noCell_X12_in : GoodIn wsX12_noCell wsX12_in := goodIn_s _ [] [5] (by decide +kernel) rfl (by decide +kernel)
set_option maxRecDepth 20000 in
theorem gX12_noCell_X12_in : GoodIn wsX12_noCell (va_wsS RX12 150 yX12_in wsX12_in) := goodIn_app (goodIn_of _ (by decide +kernel)) ggX12_noCell_X12_in
theorem edX12_noCell_0 : (decode cX12_noCell 0 = .ok (.aload_n 0, 1)) ∧ (decode cX12_noCell 1 = .ok (.getfield 7, 3)) ∧ (decode cX12_noCell 4 = .ok (.iload_n 1, 1)) ∧ (decode cX12_noCell 5 = .ok (.iaload, 1)) ∧ (decode cX12_noCell 6 = .ok (.ifCond .ge 7, 3)) ∧ (decode cX12_noCell 9 = .ok (.iconst 1, 1)) ∧ (decode cX12_noCell 10 = .ok (.goto 26, 3)) ∧ (decode cX12_noCell 13 = .ok (.iload_n 2, 1)) ∧ (decode cX12_noCell 14 = .ok (.i2l, 1)) ∧ (decode cX12_noCell 15 = .ok (.lconst 0, 1)) ∧ (decode cX12_noCell 16 = .ok (.aload_n 0, 1)) ∧ (decode cX12_noCell 17 = .ok (.getfield 7, 3)) ∧ (decode cX12_noCell 20 = .ok (.iload_n 1, 1)) ∧ (decode cX12_noCell 21 = .ok (.iaload, 1)) ∧ (decode cX12_noCell 22 = .ok (.i2l, 1)) ∧ (decode cX12_noCell 23 = .ok (.lconst 1, 1)) := by decide +kernel
def dX12_noCell_0 := edX12_noCell_0.1
def dX12_noCell_1 := edX12_noCell_0.2.1
def dX12_noCell_4 := edX12_noCell_0.2.2.1
def dX12_noCell_5 := edX12_noCell_0.2.2.2.1
def dX12_noCell_6 := edX12_noCell_0.2.2.2.2.1
def dX12_noCell_9 := edX12_noCell_0.2.2.2.2.2.1
def dX12_noCell_10 := edX12_noCell_0.2.2.2.2.2.2.1
def dX12_noCell_13 := edX12_noCell_0.2.2.2.2.2.2.2.1
def dX12_noCell_14 := edX12_noCell_0.2.2.2.2.2.2.2.2.1
def dX12_noCell_15 := edX12_noCell_0.2.2.2.2.2.2.2.2.2.1
def dX12_noCell_16 := edX12_noCell_0.2.2.2.2.2.2.2.2.2.2.1
def dX12_noCell_17 := edX12_noCell_0.2.2.2.2.2.2.2.2.2.2.2.1
def dX12_noCell_20 := edX12_noCell_0.2.2.2.2.2.2.2.2.2.2.2.2.1
def dX12_noCell_21 := edX12_noCell_0.2.2.2.2.2.2.2.2.2.2.2.2.2.1
def dX12_noCell_22 := edX12_noCell_0.2.2.2.2.2.2.2.2.2.2.2.2.2.2.1
def dX12_noCell_23 := edX12_noCell_0.2.2.2.2.2.2.2.2.2.2.2.2.2.2.2
theorem edX12_noCell_24 : (decode cX12_noCell 24 = .ok (.lsub, 1)) ∧ (decode cX12_noCell 25 = .ok (.invokestatic 150, 3)) ∧ (decode cX12_noCell 28 = .ok (.ifCond .eq 7, 3)) ∧ (decode cX12_noCell 31 = .ok (.iconst 0, 1)) ∧ (decode cX12_noCell 32 = .ok (.goto 4, 3)) ∧ (decode cX12_noCell 35 = .ok (.iconst 3, 1)) ∧ (decode cX12_noCell 36 = .ok (.ireturn, 1)) := by decide +kernel
def dX12_noCell_24 := edX12_noCell_24.1
def dX12_noCell_25 := edX12_noCell_24.2.1
def dX12_noCell_28 := edX12_noCell_24.2.2.1
def dX12_noCell_31 := edX12_noCell_24.2.2.2.1
def dX12_noCell_32 := edX12_noCell_24.2.2.2.2.1
def dX12_noCell_35 := edX12_noCell_24.2.2.2.2.2.1
def dX12_noCell_36 := edX12_noCell_24.2.2.2.2.2.2
set_option maxRecDepth 100000 in
theorem ggX12_put_X12_noSheet : GoodIn wsX12_put wsX12_noSheet := goodIn_s _ [7, 8, 9, 5] [6, 10] (by decide +kernel) rfl (by decide +kernel)
set_option maxRecDepth 20000 in
theorem gX12_put_X12_noSheet : GoodIn wsX12_put (va_wsS RX12 154 yX12_noSheet wsX12_noSheet) := goodIn_app (goodIn_of _ (by decide +kernel)) ggX12_put_X12_noSheet
set_option maxRecDepth 100000 in
theorem ggX12_put_X12_refused : GoodIn wsX12_put wsX12_refused := goodIn_ca (b := wsX120) (goodIn_s _ [15] [14] (by decide +kernel) rfl (by decide +kernel)) (goodIn_sub (fun w h => List.mem_cons_of_mem _ (List.mem_append_right _ h)) gs_wsX120)
set_option maxRecDepth 20000 in
theorem gX12_put_X12_refused : GoodIn wsX12_put (wsV RX12 158 RX12 yX12_refused wsX12_refused) := goodIn_app (goodIn_of _ (by decide +kernel)) ggX12_put_X12_refused
set_option maxRecDepth 100000 in
theorem ggX12_put_X12_noCell : GoodIn wsX12_put wsX12_noCell := goodIn_ca (b := wsX120) (goodIn_s _ [20, 8, 9, 5] [19, 10] (by decide +kernel) rfl (by decide +kernel)) (goodIn_sub (fun w h => List.mem_cons_of_mem _ (List.mem_append_right _ h)) gs_wsX120)
set_option maxRecDepth 20000 in
theorem gX12_put_X12_noCell : GoodIn wsX12_put (wsV RX12 167 RX12 yX12_noCell wsX12_noCell) := goodIn_app (goodIn_of _ (by decide +kernel)) ggX12_put_X12_noCell
set_option maxRecDepth 100000 in
theorem ggX12_put_X12_failed : GoodIn wsX12_put wsX12_failed := goodIn_ca (b := wsX120) (goodIn_s _ [15] [24] (by decide +kernel) rfl (by decide +kernel)) (goodIn_sub (fun w h => List.mem_cons_of_mem _ (List.mem_append_right _ h)) gs_wsX120)
set_option maxRecDepth 20000 in
theorem gX12_put_X12_failed : GoodIn wsX12_put (wsV RX12 164 RX12 yX12_failed wsX12_failed) := goodIn_app (goodIn_of _ (by decide +kernel)) ggX12_put_X12_failed
theorem edX12_put_0 : (decode cX12_put 0 = .ok (.iload_n 1, 1)) ∧ (decode cX12_put 1 = .ok (.invokestatic 154, 3)) ∧ (decode cX12_put 4 = .ok (.ifCond .eq 9, 3)) ∧ (decode cX12_put 7 = .ok (.aload_n 0, 1)) ∧ (decode cX12_put 8 = .ok (.iconst (-1), 1)) ∧ (decode cX12_put 9 = .ok (.invokevirtual 158, 3)) ∧ (decode cX12_put 12 = .ok (.ireturn, 1)) ∧ (decode cX12_put 13 = .ok (.aload_n 0, 1)) ∧ (decode cX12_put 14 = .ok (.iload_n 1, 1)) ∧ (decode cX12_put 15 = .ok (.iload_n 2, 1)) ∧ (decode cX12_put 16 = .ok (.invokevirtual 167, 3)) ∧ (decode cX12_put 19 = .ok (.ifCond .le 14, 3)) ∧ (decode cX12_put 22 = .ok (.aload_n 0, 1)) ∧ (decode cX12_put 23 = .ok (.aload_n 0, 1)) ∧ (decode cX12_put 24 = .ok (.iload_n 1, 1)) ∧ (decode cX12_put 25 = .ok (.iload_n 2, 1)) := by decide +kernel
def dX12_put_0 := edX12_put_0.1
def dX12_put_1 := edX12_put_0.2.1
def dX12_put_4 := edX12_put_0.2.2.1
def dX12_put_7 := edX12_put_0.2.2.2.1
def dX12_put_8 := edX12_put_0.2.2.2.2.1
def dX12_put_9 := edX12_put_0.2.2.2.2.2.1
def dX12_put_12 := edX12_put_0.2.2.2.2.2.2.1
def dX12_put_13 := edX12_put_0.2.2.2.2.2.2.2.1
def dX12_put_14 := edX12_put_0.2.2.2.2.2.2.2.2.1
def dX12_put_15 := edX12_put_0.2.2.2.2.2.2.2.2.2.1
def dX12_put_16 := edX12_put_0.2.2.2.2.2.2.2.2.2.2.1
def dX12_put_19 := edX12_put_0.2.2.2.2.2.2.2.2.2.2.2.1
def dX12_put_22 := edX12_put_0.2.2.2.2.2.2.2.2.2.2.2.2.1
def dX12_put_23 := edX12_put_0.2.2.2.2.2.2.2.2.2.2.2.2.2.1
def dX12_put_24 := edX12_put_0.2.2.2.2.2.2.2.2.2.2.2.2.2.2.1
def dX12_put_25 := edX12_put_0.2.2.2.2.2.2.2.2.2.2.2.2.2.2.2
theorem edX12_put_26 : (decode cX12_put 26 = .ok (.invokevirtual 167, 3)) ∧ (decode cX12_put 29 = .ok (.invokevirtual 164, 3)) ∧ (decode cX12_put 32 = .ok (.ireturn, 1)) ∧ (decode cX12_put 33 = .ok (.aload_n 0, 1)) ∧ (decode cX12_put 34 = .ok (.getfield 16, 3)) ∧ (decode cX12_put 37 = .ok (.bipush 20, 2)) ∧ (decode cX12_put 39 = .ok (.iload_n 1, 1)) ∧ (decode cX12_put 40 = .ok (.imul, 1)) ∧ (decode cX12_put 41 = .ok (.iload_n 2, 1)) ∧ (decode cX12_put 42 = .ok (.iadd, 1)) ∧ (decode cX12_put 43 = .ok (.aload_n 0, 1)) ∧ (decode cX12_put 44 = .ok (.getfield 13, 3)) ∧ (decode cX12_put 47 = .ok (.iload_n 1, 1)) ∧ (decode cX12_put 48 = .ok (.iaload, 1)) ∧ (decode cX12_put 49 = .ok (.ifCond .ne 8, 3)) ∧ (decode cX12_put 52 = .ok (.iload_n 3, 1)) := by decide +kernel
def dX12_put_26 := edX12_put_26.1
def dX12_put_29 := edX12_put_26.2.1
def dX12_put_32 := edX12_put_26.2.2.1
def dX12_put_33 := edX12_put_26.2.2.2.1
def dX12_put_34 := edX12_put_26.2.2.2.2.1
def dX12_put_37 := edX12_put_26.2.2.2.2.2.1
def dX12_put_39 := edX12_put_26.2.2.2.2.2.2.1
def dX12_put_40 := edX12_put_26.2.2.2.2.2.2.2.1
def dX12_put_41 := edX12_put_26.2.2.2.2.2.2.2.2.1
def dX12_put_42 := edX12_put_26.2.2.2.2.2.2.2.2.2.1
def dX12_put_43 := edX12_put_26.2.2.2.2.2.2.2.2.2.2.1
def dX12_put_44 := edX12_put_26.2.2.2.2.2.2.2.2.2.2.2.1
def dX12_put_47 := edX12_put_26.2.2.2.2.2.2.2.2.2.2.2.2.1
def dX12_put_48 := edX12_put_26.2.2.2.2.2.2.2.2.2.2.2.2.2.1
def dX12_put_49 := edX12_put_26.2.2.2.2.2.2.2.2.2.2.2.2.2.2.1
def dX12_put_52 := edX12_put_26.2.2.2.2.2.2.2.2.2.2.2.2.2.2.2
theorem edX12_put_53 : (decode cX12_put 53 = .ok (.i2b, 1)) ∧ (decode cX12_put 54 = .ok (.goto 19, 3)) ∧ (decode cX12_put 57 = .ok (.aload_n 0, 1)) ∧ (decode cX12_put 58 = .ok (.getfield 13, 3)) ∧ (decode cX12_put 61 = .ok (.iload_n 1, 1)) ∧ (decode cX12_put 62 = .ok (.iaload, 1)) ∧ (decode cX12_put 63 = .ok (.iconst 1, 1)) ∧ (decode cX12_put 64 = .ok (.if_icmp .ne 8, 3)) ∧ (decode cX12_put 67 = .ok (.iload_n 3, 1)) ∧ (decode cX12_put 68 = .ok (.i2s, 1)) ∧ (decode cX12_put 69 = .ok (.goto 4, 3)) ∧ (decode cX12_put 72 = .ok (.iload_n 3, 1)) ∧ (decode cX12_put 73 = .ok (.iastore, 1)) ∧ (decode cX12_put 74 = .ok (.aload_n 0, 1)) ∧ (decode cX12_put 75 = .ok (.iconst 1, 1)) ∧ (decode cX12_put 76 = .ok (.invokevirtual 158, 3)) := by decide +kernel
def dX12_put_53 := edX12_put_53.1
def dX12_put_54 := edX12_put_53.2.1
def dX12_put_57 := edX12_put_53.2.2.1
def dX12_put_58 := edX12_put_53.2.2.2.1
def dX12_put_61 := edX12_put_53.2.2.2.2.1
def dX12_put_62 := edX12_put_53.2.2.2.2.2.1
def dX12_put_63 := edX12_put_53.2.2.2.2.2.2.1
def dX12_put_64 := edX12_put_53.2.2.2.2.2.2.2.1
def dX12_put_67 := edX12_put_53.2.2.2.2.2.2.2.2.1
def dX12_put_68 := edX12_put_53.2.2.2.2.2.2.2.2.2.1
def dX12_put_69 := edX12_put_53.2.2.2.2.2.2.2.2.2.2.1
def dX12_put_72 := edX12_put_53.2.2.2.2.2.2.2.2.2.2.2.1
def dX12_put_73 := edX12_put_53.2.2.2.2.2.2.2.2.2.2.2.2.1
def dX12_put_74 := edX12_put_53.2.2.2.2.2.2.2.2.2.2.2.2.2.1
def dX12_put_75 := edX12_put_53.2.2.2.2.2.2.2.2.2.2.2.2.2.2.1
def dX12_put_76 := edX12_put_53.2.2.2.2.2.2.2.2.2.2.2.2.2.2.2
theorem dX12_put_79 : decode cX12_put 79 = .ok (.ireturn, 1) := by decide +kernel
set_option maxRecDepth 100000 in
theorem ggX12_cell_X12_noSheet : GoodIn wsX12_cell wsX12_noSheet := goodIn_s _ [10, 11, 12, 8] [9, 13] (by decide +kernel) rfl (by decide +kernel)
set_option maxRecDepth 20000 in
theorem gX12_cell_X12_noSheet : GoodIn wsX12_cell (va_wsS RX12 154 yX12_noSheet wsX12_noSheet) := goodIn_app (goodIn_of _ (by decide +kernel)) ggX12_cell_X12_noSheet
set_option maxRecDepth 100000 in
theorem ggX12_cell_X12_in : GoodIn wsX12_cell wsX12_in := goodIn_s _ [] [13] (by decide +kernel) rfl (by decide +kernel)
set_option maxRecDepth 20000 in
theorem gX12_cell_X12_in : GoodIn wsX12_cell (va_wsS RX12 150 yX12_in wsX12_in) := goodIn_app (goodIn_of _ (by decide +kernel)) ggX12_cell_X12_in
set_option maxRecDepth 100000 in
theorem ggX12_cell_X12_lost : GoodIn wsX12_cell wsX12_lost := goodIn_s _ [17] [16] (by decide +kernel) rfl (by decide +kernel)
set_option maxRecDepth 20000 in
theorem gX12_cell_X12_lost : GoodIn wsX12_cell (va_wsS RX12 144 yX12_lost wsX12_lost) := goodIn_app (goodIn_of _ (by decide +kernel)) ggX12_cell_X12_lost
set_option maxRecDepth 100000 in
theorem ggX12_cell_X12_failedLong : GoodIn wsX12_cell wsX12_failedLong := goodIn_ca (b := wsX120) (goodIn_s _ [1, 14, 15, 8, 17] [21, 16] (by decide +kernel) rfl (by decide +kernel)) (goodIn_sub (fun w h => List.mem_cons_of_mem _ (List.mem_append_right _ h)) gs_wsX120)
set_option maxRecDepth 20000 in
theorem gX12_cell_X12_failedLong : GoodIn wsX12_cell (wsV RX12 171 RX12 yX12_failedLong wsX12_failedLong) := goodIn_app (goodIn_of _ (by decide +kernel)) ggX12_cell_X12_failedLong
set_option maxRecDepth 100000 in
theorem ggX12_cell_X12_noCell : GoodIn wsX12_cell wsX12_noCell := goodIn_ca (b := wsX120) (goodIn_s _ [3, 11, 12, 8] [25, 13] (by decide +kernel) rfl (by decide +kernel)) (goodIn_sub (fun w h => List.mem_cons_of_mem _ (List.mem_append_right _ h)) gs_wsX120)
set_option maxRecDepth 20000 in
theorem gX12_cell_X12_noCell : GoodIn wsX12_cell (wsV RX12 167 RX12 yX12_noCell wsX12_noCell) := goodIn_app (goodIn_of _ (by decide +kernel)) ggX12_cell_X12_noCell
theorem edX12_cell_0 : (decode cX12_cell 0 = .ok (.aload_n 0, 1)) ∧ (decode cX12_cell 1 = .ok (.iconst 0, 1)) ∧ (decode cX12_cell 2 = .ok (.putfield 141, 3)) ∧ (decode cX12_cell 5 = .ok (.iload_n 1, 1)) ∧ (decode cX12_cell 6 = .ok (.invokestatic 154, 3)) ∧ (decode cX12_cell 9 = .ok (.ifCond .ne 15, 3)) ∧ (decode cX12_cell 12 = .ok (.iload_n 3, 1)) ∧ (decode cX12_cell 13 = .ok (.i2l, 1)) ∧ (decode cX12_cell 14 = .ok (.lconst 0, 1)) ∧ (decode cX12_cell 15 = .ok (.ldc2_w 162, 3)) ∧ (decode cX12_cell 18 = .ok (.invokestatic 150, 3)) ∧ (decode cX12_cell 21 = .ok (.ifCond .ne 7, 3)) ∧ (decode cX12_cell 24 = .ok (.invokestatic 144, 3)) ∧ (decode cX12_cell 27 = .ok (.lreturn, 1)) ∧ (decode cX12_cell 28 = .ok (.aload_n 0, 1)) ∧ (decode cX12_cell 29 = .ok (.getfield 7, 3)) := by decide +kernel
def dX12_cell_0 := edX12_cell_0.1
def dX12_cell_1 := edX12_cell_0.2.1
def dX12_cell_2 := edX12_cell_0.2.2.1
def dX12_cell_5 := edX12_cell_0.2.2.2.1
def dX12_cell_6 := edX12_cell_0.2.2.2.2.1
def dX12_cell_9 := edX12_cell_0.2.2.2.2.2.1
def dX12_cell_12 := edX12_cell_0.2.2.2.2.2.2.1
def dX12_cell_13 := edX12_cell_0.2.2.2.2.2.2.2.1
def dX12_cell_14 := edX12_cell_0.2.2.2.2.2.2.2.2.1
def dX12_cell_15 := edX12_cell_0.2.2.2.2.2.2.2.2.2.1
def dX12_cell_18 := edX12_cell_0.2.2.2.2.2.2.2.2.2.2.1
def dX12_cell_21 := edX12_cell_0.2.2.2.2.2.2.2.2.2.2.2.1
def dX12_cell_24 := edX12_cell_0.2.2.2.2.2.2.2.2.2.2.2.2.1
def dX12_cell_27 := edX12_cell_0.2.2.2.2.2.2.2.2.2.2.2.2.2.1
def dX12_cell_28 := edX12_cell_0.2.2.2.2.2.2.2.2.2.2.2.2.2.2.1
def dX12_cell_29 := edX12_cell_0.2.2.2.2.2.2.2.2.2.2.2.2.2.2.2
theorem edX12_cell_32 : (decode cX12_cell 32 = .ok (.iload_n 1, 1)) ∧ (decode cX12_cell 33 = .ok (.iaload, 1)) ∧ (decode cX12_cell 34 = .ok (.ifCond .lt 19, 3)) ∧ (decode cX12_cell 37 = .ok (.aload_n 0, 1)) ∧ (decode cX12_cell 38 = .ok (.getfield 13, 3)) ∧ (decode cX12_cell 41 = .ok (.iload_n 1, 1)) ∧ (decode cX12_cell 42 = .ok (.iaload, 1)) ∧ (decode cX12_cell 43 = .ok (.iload_n 3, 1)) ∧ (decode cX12_cell 44 = .ok (.if_icmp .eq 9, 3)) ∧ (decode cX12_cell 47 = .ok (.aload_n 0, 1)) ∧ (decode cX12_cell 48 = .ok (.iconst 2, 1)) ∧ (decode cX12_cell 49 = .ok (.invokevirtual 171, 3)) ∧ (decode cX12_cell 52 = .ok (.lreturn, 1)) ∧ (decode cX12_cell 53 = .ok (.aload_n 0, 1)) ∧ (decode cX12_cell 54 = .ok (.iload_n 1, 1)) ∧ (decode cX12_cell 55 = .ok (.iload_n 2, 1)) := by decide +kernel
def dX12_cell_32 := edX12_cell_32.1
def dX12_cell_33 := edX12_cell_32.2.1
def dX12_cell_34 := edX12_cell_32.2.2.1
def dX12_cell_37 := edX12_cell_32.2.2.2.1
def dX12_cell_38 := edX12_cell_32.2.2.2.2.1
def dX12_cell_41 := edX12_cell_32.2.2.2.2.2.1
def dX12_cell_42 := edX12_cell_32.2.2.2.2.2.2.1
def dX12_cell_43 := edX12_cell_32.2.2.2.2.2.2.2.1
def dX12_cell_44 := edX12_cell_32.2.2.2.2.2.2.2.2.1
def dX12_cell_47 := edX12_cell_32.2.2.2.2.2.2.2.2.2.1
def dX12_cell_48 := edX12_cell_32.2.2.2.2.2.2.2.2.2.2.1
def dX12_cell_49 := edX12_cell_32.2.2.2.2.2.2.2.2.2.2.2.1
def dX12_cell_52 := edX12_cell_32.2.2.2.2.2.2.2.2.2.2.2.2.1
def dX12_cell_53 := edX12_cell_32.2.2.2.2.2.2.2.2.2.2.2.2.2.1
def dX12_cell_54 := edX12_cell_32.2.2.2.2.2.2.2.2.2.2.2.2.2.2.1
def dX12_cell_55 := edX12_cell_32.2.2.2.2.2.2.2.2.2.2.2.2.2.2.2
theorem edX12_cell_56 : (decode cX12_cell 56 = .ok (.invokevirtual 167, 3)) ∧ (decode cX12_cell 59 = .ok (.ifCond .le 16, 3)) ∧ (decode cX12_cell 62 = .ok (.aload_n 0, 1)) ∧ (decode cX12_cell 63 = .ok (.aload_n 0, 1)) ∧ (decode cX12_cell 64 = .ok (.iload_n 1, 1)) ∧ (decode cX12_cell 65 = .ok (.iload_n 2, 1)) ∧ (decode cX12_cell 66 = .ok (.invokevirtual 167, 3)) ∧ (decode cX12_cell 69 = .ok (.invokevirtual 171, 3)) ∧ (decode cX12_cell 72 = .ok (.goto 15, 3)) ∧ (decode cX12_cell 75 = .ok (.aload_n 0, 1)) ∧ (decode cX12_cell 76 = .ok (.getfield 16, 3)) ∧ (decode cX12_cell 79 = .ok (.bipush 20, 2)) ∧ (decode cX12_cell 81 = .ok (.iload_n 1, 1)) ∧ (decode cX12_cell 82 = .ok (.imul, 1)) ∧ (decode cX12_cell 83 = .ok (.iload_n 2, 1)) ∧ (decode cX12_cell 84 = .ok (.iadd, 1)) := by decide +kernel
def dX12_cell_56 := edX12_cell_56.1
def dX12_cell_59 := edX12_cell_56.2.1
def dX12_cell_62 := edX12_cell_56.2.2.1
def dX12_cell_63 := edX12_cell_56.2.2.2.1
def dX12_cell_64 := edX12_cell_56.2.2.2.2.1
def dX12_cell_65 := edX12_cell_56.2.2.2.2.2.1
def dX12_cell_66 := edX12_cell_56.2.2.2.2.2.2.1
def dX12_cell_69 := edX12_cell_56.2.2.2.2.2.2.2.1
def dX12_cell_72 := edX12_cell_56.2.2.2.2.2.2.2.2.1
def dX12_cell_75 := edX12_cell_56.2.2.2.2.2.2.2.2.2.1
def dX12_cell_76 := edX12_cell_56.2.2.2.2.2.2.2.2.2.2.1
def dX12_cell_79 := edX12_cell_56.2.2.2.2.2.2.2.2.2.2.2.1
def dX12_cell_81 := edX12_cell_56.2.2.2.2.2.2.2.2.2.2.2.2.1
def dX12_cell_82 := edX12_cell_56.2.2.2.2.2.2.2.2.2.2.2.2.2.1
def dX12_cell_83 := edX12_cell_56.2.2.2.2.2.2.2.2.2.2.2.2.2.2.1
def dX12_cell_84 := edX12_cell_56.2.2.2.2.2.2.2.2.2.2.2.2.2.2.2
theorem edX12_cell_85 : (decode cX12_cell 85 = .ok (.iaload, 1)) ∧ (decode cX12_cell 86 = .ok (.i2l, 1)) ∧ (decode cX12_cell 87 = .ok (.lreturn, 1)) := by decide +kernel
def dX12_cell_85 := edX12_cell_85.1
def dX12_cell_86 := edX12_cell_85.2.1
def dX12_cell_87 := edX12_cell_85.2.2
theorem edX12_isBeyond_0 : (decode cX12_isBeyond 0 = .ok (.iload_n 0, 1)) ∧ (decode cX12_isBeyond 1 = .ok (.ifCond .lt 18, 3)) ∧ (decode cX12_isBeyond 4 = .ok (.iload_n 1, 1)) ∧ (decode cX12_isBeyond 5 = .ok (.ifCond .lt 14, 3)) ∧ (decode cX12_isBeyond 8 = .ok (.iload_n 0, 1)) ∧ (decode cX12_isBeyond 9 = .ok (.i2l, 1)) ∧ (decode cX12_isBeyond 10 = .ok (.iload_n 1, 1)) ∧ (decode cX12_isBeyond 11 = .ok (.i2l, 1)) ∧ (decode cX12_isBeyond 12 = .ok (.ladd, 1)) ∧ (decode cX12_isBeyond 13 = .ok (.iload_n 2, 1)) ∧ (decode cX12_isBeyond 14 = .ok (.i2l, 1)) ∧ (decode cX12_isBeyond 15 = .ok (.lcmp, 1)) ∧ (decode cX12_isBeyond 16 = .ok (.ifCond .le 7, 3)) ∧ (decode cX12_isBeyond 19 = .ok (.iconst 1, 1)) ∧ (decode cX12_isBeyond 20 = .ok (.goto 4, 3)) ∧ (decode cX12_isBeyond 23 = .ok (.iconst 0, 1)) := by decide +kernel
def dX12_isBeyond_0 := edX12_isBeyond_0.1
def dX12_isBeyond_1 := edX12_isBeyond_0.2.1
def dX12_isBeyond_4 := edX12_isBeyond_0.2.2.1
def dX12_isBeyond_5 := edX12_isBeyond_0.2.2.2.1
def dX12_isBeyond_8 := edX12_isBeyond_0.2.2.2.2.1
def dX12_isBeyond_9 := edX12_isBeyond_0.2.2.2.2.2.1
def dX12_isBeyond_10 := edX12_isBeyond_0.2.2.2.2.2.2.1
def dX12_isBeyond_11 := edX12_isBeyond_0.2.2.2.2.2.2.2.1
def dX12_isBeyond_12 := edX12_isBeyond_0.2.2.2.2.2.2.2.2.1
def dX12_isBeyond_13 := edX12_isBeyond_0.2.2.2.2.2.2.2.2.2.1
def dX12_isBeyond_14 := edX12_isBeyond_0.2.2.2.2.2.2.2.2.2.2.1
def dX12_isBeyond_15 := edX12_isBeyond_0.2.2.2.2.2.2.2.2.2.2.2.1
def dX12_isBeyond_16 := edX12_isBeyond_0.2.2.2.2.2.2.2.2.2.2.2.2.1
def dX12_isBeyond_19 := edX12_isBeyond_0.2.2.2.2.2.2.2.2.2.2.2.2.2.1
def dX12_isBeyond_20 := edX12_isBeyond_0.2.2.2.2.2.2.2.2.2.2.2.2.2.2.1
def dX12_isBeyond_23 := edX12_isBeyond_0.2.2.2.2.2.2.2.2.2.2.2.2.2.2.2
theorem dX12_isBeyond_24 : decode cX12_isBeyond 24 = .ok (.ireturn, 1) := by decide +kernel
set_option maxRecDepth 100000 in
theorem ggX12_copy_X12_noSheet : GoodIn wsX12_copy wsX12_noSheet := goodIn_s _ [9, 10, 11, 7] [8, 12] (by decide +kernel) rfl (by decide +kernel)
set_option maxRecDepth 20000 in
theorem gX12_copy_X12_noSheet : GoodIn wsX12_copy (va_wsS RX12 154 yX12_noSheet wsX12_noSheet) := goodIn_app (goodIn_of _ (by decide +kernel)) ggX12_copy_X12_noSheet
set_option maxRecDepth 100000 in
theorem ggX12_copy_X12_refused : GoodIn wsX12_copy wsX12_refused := goodIn_ca (b := wsX120) (goodIn_s _ [17] [16] (by decide +kernel) rfl (by decide +kernel)) (goodIn_sub (fun w h => List.mem_cons_of_mem _ (List.mem_append_right _ h)) gs_wsX120)
set_option maxRecDepth 20000 in
theorem gX12_copy_X12_refused : GoodIn wsX12_copy (wsV RX12 158 RX12 yX12_refused wsX12_refused) := goodIn_app (goodIn_of _ (by decide +kernel)) ggX12_copy_X12_refused
set_option maxRecDepth 100000 in
theorem ggX12_copy_X12_failed : GoodIn wsX12_copy wsX12_failed := goodIn_ca (b := wsX120) (goodIn_s _ [17] [21] (by decide +kernel) rfl (by decide +kernel)) (goodIn_sub (fun w h => List.mem_cons_of_mem _ (List.mem_append_right _ h)) gs_wsX120)
set_option maxRecDepth 20000 in
theorem gX12_copy_X12_failed : GoodIn wsX12_copy (wsV RX12 164 RX12 yX12_failed wsX12_failed) := goodIn_app (goodIn_of _ (by decide +kernel)) ggX12_copy_X12_failed
set_option maxRecDepth 100000 in
theorem ggX12_copy_X12_isBeyond : GoodIn wsX12_copy wsX12_isBeyond := goodIn_s _ [] [24] (by decide +kernel) rfl (by decide +kernel)
set_option maxRecDepth 20000 in
theorem gX12_copy_X12_isBeyond : GoodIn wsX12_copy (va_wsS RX12 175 yX12_isBeyond wsX12_isBeyond) := goodIn_app (goodIn_of _ (by decide +kernel)) ggX12_copy_X12_isBeyond
theorem edX12_copy_0 : (decode cX12_copy 0 = .ok (.iload_n 1, 1)) ∧ (decode cX12_copy 1 = .ok (.invokestatic 154, 3)) ∧ (decode cX12_copy 4 = .ok (.ifCond .ne 10, 3)) ∧ (decode cX12_copy 7 = .ok (.iload_n 3, 1)) ∧ (decode cX12_copy 8 = .ok (.invokestatic 154, 3)) ∧ (decode cX12_copy 11 = .ok (.ifCond .eq 9, 3)) ∧ (decode cX12_copy 14 = .ok (.aload_n 0, 1)) ∧ (decode cX12_copy 15 = .ok (.iconst (-1), 1)) ∧ (decode cX12_copy 16 = .ok (.invokevirtual 158, 3)) ∧ (decode cX12_copy 19 = .ok (.ireturn, 1)) ∧ (decode cX12_copy 20 = .ok (.aload_n 0, 1)) ∧ (decode cX12_copy 21 = .ok (.getfield 7, 3)) ∧ (decode cX12_copy 24 = .ok (.iload_n 1, 1)) ∧ (decode cX12_copy 25 = .ok (.iaload, 1)) ∧ (decode cX12_copy 26 = .ok (.ifCond .lt 12, 3)) ∧ (decode cX12_copy 29 = .ok (.aload_n 0, 1)) := by decide +kernel
def dX12_copy_0 := edX12_copy_0.1
def dX12_copy_1 := edX12_copy_0.2.1
def dX12_copy_4 := edX12_copy_0.2.2.1
def dX12_copy_7 := edX12_copy_0.2.2.2.1
def dX12_copy_8 := edX12_copy_0.2.2.2.2.1
def dX12_copy_11 := edX12_copy_0.2.2.2.2.2.1
def dX12_copy_14 := edX12_copy_0.2.2.2.2.2.2.1
def dX12_copy_15 := edX12_copy_0.2.2.2.2.2.2.2.1
def dX12_copy_16 := edX12_copy_0.2.2.2.2.2.2.2.2.1
def dX12_copy_19 := edX12_copy_0.2.2.2.2.2.2.2.2.2.1
def dX12_copy_20 := edX12_copy_0.2.2.2.2.2.2.2.2.2.2.1
def dX12_copy_21 := edX12_copy_0.2.2.2.2.2.2.2.2.2.2.2.1
def dX12_copy_24 := edX12_copy_0.2.2.2.2.2.2.2.2.2.2.2.2.1
def dX12_copy_25 := edX12_copy_0.2.2.2.2.2.2.2.2.2.2.2.2.2.1
def dX12_copy_26 := edX12_copy_0.2.2.2.2.2.2.2.2.2.2.2.2.2.2.1
def dX12_copy_29 := edX12_copy_0.2.2.2.2.2.2.2.2.2.2.2.2.2.2.2
theorem edX12_copy_30 : (decode cX12_copy 30 = .ok (.getfield 7, 3)) ∧ (decode cX12_copy 33 = .ok (.iload_n 3, 1)) ∧ (decode cX12_copy 34 = .ok (.iaload, 1)) ∧ (decode cX12_copy 35 = .ok (.ifCond .ge 9, 3)) ∧ (decode cX12_copy 38 = .ok (.aload_n 0, 1)) ∧ (decode cX12_copy 39 = .ok (.iconst 1, 1)) ∧ (decode cX12_copy 40 = .ok (.invokevirtual 164, 3)) ∧ (decode cX12_copy 43 = .ok (.ireturn, 1)) ∧ (decode cX12_copy 44 = .ok (.aload_n 0, 1)) ∧ (decode cX12_copy 45 = .ok (.getfield 13, 3)) ∧ (decode cX12_copy 48 = .ok (.iload_n 1, 1)) ∧ (decode cX12_copy 49 = .ok (.iaload, 1)) ∧ (decode cX12_copy 50 = .ok (.aload_n 0, 1)) ∧ (decode cX12_copy 51 = .ok (.getfield 13, 3)) ∧ (decode cX12_copy 54 = .ok (.iload_n 3, 1)) ∧ (decode cX12_copy 55 = .ok (.iaload, 1)) := by decide +kernel
def dX12_copy_30 := edX12_copy_30.1
def dX12_copy_33 := edX12_copy_30.2.1
def dX12_copy_34 := edX12_copy_30.2.2.1
def dX12_copy_35 := edX12_copy_30.2.2.2.1
def dX12_copy_38 := edX12_copy_30.2.2.2.2.1
def dX12_copy_39 := edX12_copy_30.2.2.2.2.2.1
def dX12_copy_40 := edX12_copy_30.2.2.2.2.2.2.1
def dX12_copy_43 := edX12_copy_30.2.2.2.2.2.2.2.1
def dX12_copy_44 := edX12_copy_30.2.2.2.2.2.2.2.2.1
def dX12_copy_45 := edX12_copy_30.2.2.2.2.2.2.2.2.2.1
def dX12_copy_48 := edX12_copy_30.2.2.2.2.2.2.2.2.2.2.1
def dX12_copy_49 := edX12_copy_30.2.2.2.2.2.2.2.2.2.2.2.1
def dX12_copy_50 := edX12_copy_30.2.2.2.2.2.2.2.2.2.2.2.2.1
def dX12_copy_51 := edX12_copy_30.2.2.2.2.2.2.2.2.2.2.2.2.2.1
def dX12_copy_54 := edX12_copy_30.2.2.2.2.2.2.2.2.2.2.2.2.2.2.1
def dX12_copy_55 := edX12_copy_30.2.2.2.2.2.2.2.2.2.2.2.2.2.2.2
theorem edX12_copy_56 : (decode cX12_copy 56 = .ok (.if_icmp .eq 9, 3)) ∧ (decode cX12_copy 59 = .ok (.aload_n 0, 1)) ∧ (decode cX12_copy 60 = .ok (.iconst 2, 1)) ∧ (decode cX12_copy 61 = .ok (.invokevirtual 164, 3)) ∧ (decode cX12_copy 64 = .ok (.ireturn, 1)) ∧ (decode cX12_copy 65 = .ok (.iload_n 2, 1)) ∧ (decode cX12_copy 66 = .ok (.iload 5, 2)) ∧ (decode cX12_copy 68 = .ok (.aload_n 0, 1)) ∧ (decode cX12_copy 69 = .ok (.getfield 7, 3)) ∧ (decode cX12_copy 72 = .ok (.iload_n 1, 1)) ∧ (decode cX12_copy 73 = .ok (.iaload, 1)) ∧ (decode cX12_copy 74 = .ok (.invokestatic 175, 3)) ∧ (decode cX12_copy 77 = .ok (.ifCond .ne 19, 3)) ∧ (decode cX12_copy 80 = .ok (.iload 4, 2)) ∧ (decode cX12_copy 82 = .ok (.iload 5, 2)) ∧ (decode cX12_copy 84 = .ok (.aload_n 0, 1)) := by decide +kernel
def dX12_copy_56 := edX12_copy_56.1
def dX12_copy_59 := edX12_copy_56.2.1
def dX12_copy_60 := edX12_copy_56.2.2.1
def dX12_copy_61 := edX12_copy_56.2.2.2.1
def dX12_copy_64 := edX12_copy_56.2.2.2.2.1
def dX12_copy_65 := edX12_copy_56.2.2.2.2.2.1
def dX12_copy_66 := edX12_copy_56.2.2.2.2.2.2.1
def dX12_copy_68 := edX12_copy_56.2.2.2.2.2.2.2.1
def dX12_copy_69 := edX12_copy_56.2.2.2.2.2.2.2.2.1
def dX12_copy_72 := edX12_copy_56.2.2.2.2.2.2.2.2.2.1
def dX12_copy_73 := edX12_copy_56.2.2.2.2.2.2.2.2.2.2.1
def dX12_copy_74 := edX12_copy_56.2.2.2.2.2.2.2.2.2.2.2.1
def dX12_copy_77 := edX12_copy_56.2.2.2.2.2.2.2.2.2.2.2.2.1
def dX12_copy_80 := edX12_copy_56.2.2.2.2.2.2.2.2.2.2.2.2.2.1
def dX12_copy_82 := edX12_copy_56.2.2.2.2.2.2.2.2.2.2.2.2.2.2.1
def dX12_copy_84 := edX12_copy_56.2.2.2.2.2.2.2.2.2.2.2.2.2.2.2
theorem edX12_copy_85 : (decode cX12_copy 85 = .ok (.getfield 7, 3)) ∧ (decode cX12_copy 88 = .ok (.iload_n 3, 1)) ∧ (decode cX12_copy 89 = .ok (.iaload, 1)) ∧ (decode cX12_copy 90 = .ok (.invokestatic 175, 3)) ∧ (decode cX12_copy 93 = .ok (.ifCond .eq 9, 3)) ∧ (decode cX12_copy 96 = .ok (.aload_n 0, 1)) ∧ (decode cX12_copy 97 = .ok (.iconst 3, 1)) ∧ (decode cX12_copy 98 = .ok (.invokevirtual 164, 3)) ∧ (decode cX12_copy 101 = .ok (.ireturn, 1)) ∧ (decode cX12_copy 102 = .ok (.iconst 0, 1)) ∧ (decode cX12_copy 103 = .ok (.istore 6, 2)) ∧ (decode cX12_copy 105 = .ok (.iload 6, 2)) ∧ (decode cX12_copy 107 = .ok (.iload 5, 2)) ∧ (decode cX12_copy 109 = .ok (.if_icmp .ge 30, 3)) ∧ (decode cX12_copy 112 = .ok (.aload_n 0, 1)) ∧ (decode cX12_copy 113 = .ok (.getfield 19, 3)) := by decide +kernel
def dX12_copy_85 := edX12_copy_85.1
def dX12_copy_88 := edX12_copy_85.2.1
def dX12_copy_89 := edX12_copy_85.2.2.1
def dX12_copy_90 := edX12_copy_85.2.2.2.1
def dX12_copy_93 := edX12_copy_85.2.2.2.2.1
def dX12_copy_96 := edX12_copy_85.2.2.2.2.2.1
def dX12_copy_97 := edX12_copy_85.2.2.2.2.2.2.1
def dX12_copy_98 := edX12_copy_85.2.2.2.2.2.2.2.1
def dX12_copy_101 := edX12_copy_85.2.2.2.2.2.2.2.2.1
def dX12_copy_102 := edX12_copy_85.2.2.2.2.2.2.2.2.2.1
def dX12_copy_103 := edX12_copy_85.2.2.2.2.2.2.2.2.2.2.1
def dX12_copy_105 := edX12_copy_85.2.2.2.2.2.2.2.2.2.2.2.1
def dX12_copy_107 := edX12_copy_85.2.2.2.2.2.2.2.2.2.2.2.2.1
def dX12_copy_109 := edX12_copy_85.2.2.2.2.2.2.2.2.2.2.2.2.2.1
def dX12_copy_112 := edX12_copy_85.2.2.2.2.2.2.2.2.2.2.2.2.2.2.1
def dX12_copy_113 := edX12_copy_85.2.2.2.2.2.2.2.2.2.2.2.2.2.2.2
theorem edX12_copy_116 : (decode cX12_copy 116 = .ok (.iload 6, 2)) ∧ (decode cX12_copy 118 = .ok (.aload_n 0, 1)) ∧ (decode cX12_copy 119 = .ok (.getfield 16, 3)) ∧ (decode cX12_copy 122 = .ok (.bipush 20, 2)) ∧ (decode cX12_copy 124 = .ok (.iload_n 1, 1)) ∧ (decode cX12_copy 125 = .ok (.imul, 1)) ∧ (decode cX12_copy 126 = .ok (.iload_n 2, 1)) ∧ (decode cX12_copy 127 = .ok (.iadd, 1)) ∧ (decode cX12_copy 128 = .ok (.iload 6, 2)) ∧ (decode cX12_copy 130 = .ok (.iadd, 1)) ∧ (decode cX12_copy 131 = .ok (.iaload, 1)) ∧ (decode cX12_copy 132 = .ok (.iastore, 1)) ∧ (decode cX12_copy 133 = .ok (.iinc 6 1, 3)) ∧ (decode cX12_copy 136 = .ok (.goto (-31), 3)) ∧ (decode cX12_copy 139 = .ok (.iconst 0, 1)) ∧ (decode cX12_copy 140 = .ok (.istore 6, 2)) := by decide +kernel
def dX12_copy_116 := edX12_copy_116.1
def dX12_copy_118 := edX12_copy_116.2.1
def dX12_copy_119 := edX12_copy_116.2.2.1
def dX12_copy_122 := edX12_copy_116.2.2.2.1
def dX12_copy_124 := edX12_copy_116.2.2.2.2.1
def dX12_copy_125 := edX12_copy_116.2.2.2.2.2.1
def dX12_copy_126 := edX12_copy_116.2.2.2.2.2.2.1
def dX12_copy_127 := edX12_copy_116.2.2.2.2.2.2.2.1
def dX12_copy_128 := edX12_copy_116.2.2.2.2.2.2.2.2.1
def dX12_copy_130 := edX12_copy_116.2.2.2.2.2.2.2.2.2.1
def dX12_copy_131 := edX12_copy_116.2.2.2.2.2.2.2.2.2.2.1
def dX12_copy_132 := edX12_copy_116.2.2.2.2.2.2.2.2.2.2.2.1
def dX12_copy_133 := edX12_copy_116.2.2.2.2.2.2.2.2.2.2.2.2.1
def dX12_copy_136 := edX12_copy_116.2.2.2.2.2.2.2.2.2.2.2.2.2.1
def dX12_copy_139 := edX12_copy_116.2.2.2.2.2.2.2.2.2.2.2.2.2.2.1
def dX12_copy_140 := edX12_copy_116.2.2.2.2.2.2.2.2.2.2.2.2.2.2.2
theorem edX12_copy_142 : (decode cX12_copy 142 = .ok (.iload 6, 2)) ∧ (decode cX12_copy 144 = .ok (.iload 5, 2)) ∧ (decode cX12_copy 146 = .ok (.if_icmp .ge 31, 3)) ∧ (decode cX12_copy 149 = .ok (.aload_n 0, 1)) ∧ (decode cX12_copy 150 = .ok (.getfield 16, 3)) ∧ (decode cX12_copy 153 = .ok (.bipush 20, 2)) ∧ (decode cX12_copy 155 = .ok (.iload_n 3, 1)) ∧ (decode cX12_copy 156 = .ok (.imul, 1)) ∧ (decode cX12_copy 157 = .ok (.iload 4, 2)) ∧ (decode cX12_copy 159 = .ok (.iadd, 1)) ∧ (decode cX12_copy 160 = .ok (.iload 6, 2)) ∧ (decode cX12_copy 162 = .ok (.iadd, 1)) ∧ (decode cX12_copy 163 = .ok (.aload_n 0, 1)) ∧ (decode cX12_copy 164 = .ok (.getfield 19, 3)) ∧ (decode cX12_copy 167 = .ok (.iload 6, 2)) ∧ (decode cX12_copy 169 = .ok (.iaload, 1)) := by decide +kernel
def dX12_copy_142 := edX12_copy_142.1
def dX12_copy_144 := edX12_copy_142.2.1
def dX12_copy_146 := edX12_copy_142.2.2.1
def dX12_copy_149 := edX12_copy_142.2.2.2.1
def dX12_copy_150 := edX12_copy_142.2.2.2.2.1
def dX12_copy_153 := edX12_copy_142.2.2.2.2.2.1
def dX12_copy_155 := edX12_copy_142.2.2.2.2.2.2.1
def dX12_copy_156 := edX12_copy_142.2.2.2.2.2.2.2.1
def dX12_copy_157 := edX12_copy_142.2.2.2.2.2.2.2.2.1
def dX12_copy_159 := edX12_copy_142.2.2.2.2.2.2.2.2.2.1
def dX12_copy_160 := edX12_copy_142.2.2.2.2.2.2.2.2.2.2.1
def dX12_copy_162 := edX12_copy_142.2.2.2.2.2.2.2.2.2.2.2.1
def dX12_copy_163 := edX12_copy_142.2.2.2.2.2.2.2.2.2.2.2.2.1
def dX12_copy_164 := edX12_copy_142.2.2.2.2.2.2.2.2.2.2.2.2.2.1
def dX12_copy_167 := edX12_copy_142.2.2.2.2.2.2.2.2.2.2.2.2.2.2.1
def dX12_copy_169 := edX12_copy_142.2.2.2.2.2.2.2.2.2.2.2.2.2.2.2
theorem edX12_copy_170 : (decode cX12_copy 170 = .ok (.iastore, 1)) ∧ (decode cX12_copy 171 = .ok (.iinc 6 1, 3)) ∧ (decode cX12_copy 174 = .ok (.goto (-32), 3)) ∧ (decode cX12_copy 177 = .ok (.aload_n 0, 1)) ∧ (decode cX12_copy 178 = .ok (.iload 5, 2)) ∧ (decode cX12_copy 180 = .ok (.invokevirtual 158, 3)) ∧ (decode cX12_copy 183 = .ok (.ireturn, 1)) := by decide +kernel
def dX12_copy_170 := edX12_copy_170.1
def dX12_copy_171 := edX12_copy_170.2.1
def dX12_copy_174 := edX12_copy_170.2.2.1
def dX12_copy_177 := edX12_copy_170.2.2.2.1
def dX12_copy_178 := edX12_copy_170.2.2.2.2.1
def dX12_copy_180 := edX12_copy_170.2.2.2.2.2.1
def dX12_copy_183 := edX12_copy_170.2.2.2.2.2.2
