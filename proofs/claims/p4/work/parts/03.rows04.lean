set_option maxRecDepth 100000 in
theorem ggX12_noCylinder_X12_in : GoodIn wsX12_noCylinder wsX12_in := goodIn_s _ [] [5] (by decide +kernel) rfl (by decide +kernel)
set_option maxRecDepth 20000 in
theorem gX12_noCylinder_X12_in : GoodIn wsX12_noCylinder (va_wsS RX12 150 yX12_in wsX12_in) := goodIn_app (goodIn_of _ (by decide +kernel)) ggX12_noCylinder_X12_in
theorem edX12_noCylinder_0 : (decode cX12_noCylinder 0 = .ok (.iload_n 1, 1)) ∧ (decode cX12_noCylinder 1 = .ok (.i2l, 1)) ∧ (decode cX12_noCylinder 2 = .ok (.lconst 0, 1)) ∧ (decode cX12_noCylinder 3 = .ok (.aload_n 0, 1)) ∧ (decode cX12_noCylinder 4 = .ok (.getfield 179, 3)) ∧ (decode cX12_noCylinder 7 = .ok (.i2l, 1)) ∧ (decode cX12_noCylinder 8 = .ok (.lconst 1, 1)) ∧ (decode cX12_noCylinder 9 = .ok (.lsub, 1)) ∧ (decode cX12_noCylinder 10 = .ok (.invokestatic 150, 3)) ∧ (decode cX12_noCylinder 13 = .ok (.ifCond .ne 7, 3)) ∧ (decode cX12_noCylinder 16 = .ok (.iconst 1, 1)) ∧ (decode cX12_noCylinder 17 = .ok (.goto 4, 3)) ∧ (decode cX12_noCylinder 20 = .ok (.iconst 0, 1)) ∧ (decode cX12_noCylinder 21 = .ok (.ireturn, 1)) := by decide +kernel
def dX12_noCylinder_0 := edX12_noCylinder_0.1
def dX12_noCylinder_1 := edX12_noCylinder_0.2.1
def dX12_noCylinder_2 := edX12_noCylinder_0.2.2.1
def dX12_noCylinder_3 := edX12_noCylinder_0.2.2.2.1
def dX12_noCylinder_4 := edX12_noCylinder_0.2.2.2.2.1
def dX12_noCylinder_7 := edX12_noCylinder_0.2.2.2.2.2.1
def dX12_noCylinder_8 := edX12_noCylinder_0.2.2.2.2.2.2.1
def dX12_noCylinder_9 := edX12_noCylinder_0.2.2.2.2.2.2.2.1
def dX12_noCylinder_10 := edX12_noCylinder_0.2.2.2.2.2.2.2.2.1
def dX12_noCylinder_13 := edX12_noCylinder_0.2.2.2.2.2.2.2.2.2.1
def dX12_noCylinder_16 := edX12_noCylinder_0.2.2.2.2.2.2.2.2.2.2.1
def dX12_noCylinder_17 := edX12_noCylinder_0.2.2.2.2.2.2.2.2.2.2.2.1
def dX12_noCylinder_20 := edX12_noCylinder_0.2.2.2.2.2.2.2.2.2.2.2.2.1
def dX12_noCylinder_21 := edX12_noCylinder_0.2.2.2.2.2.2.2.2.2.2.2.2.2
set_option maxRecDepth 100000 in
theorem ggX12_pump_X12_in : GoodIn wsX12_pump wsX12_in := goodIn_s _ [] [7] (by decide +kernel) rfl (by decide +kernel)
set_option maxRecDepth 20000 in
theorem gX12_pump_X12_in : GoodIn wsX12_pump (va_wsS RX12 150 yX12_in wsX12_in) := goodIn_app (goodIn_of _ (by decide +kernel)) ggX12_pump_X12_in
theorem edX12_pump_0 : (decode cX12_pump 0 = .ok (.iload_n 1, 1)) ∧ (decode cX12_pump 1 = .ok (.i2l, 1)) ∧ (decode cX12_pump 2 = .ok (.lconst 0, 1)) ∧ (decode cX12_pump 3 = .ok (.lconst 1, 1)) ∧ (decode cX12_pump 4 = .ok (.invokestatic 150, 3)) ∧ (decode cX12_pump 7 = .ok (.ifCond .ne 5, 3)) ∧ (decode cX12_pump 10 = .ok (.iconst (-1), 1)) ∧ (decode cX12_pump 11 = .ok (.ireturn, 1)) ∧ (decode cX12_pump 12 = .ok (.iload_n 2, 1)) ∧ (decode cX12_pump 13 = .ok (.i2l, 1)) ∧ (decode cX12_pump 14 = .ok (.iload_n 1, 1)) ∧ (decode cX12_pump 15 = .ok (.i2l, 1)) ∧ (decode cX12_pump 16 = .ok (.ldc2_w 182, 3)) ∧ (decode cX12_pump 19 = .ok (.invokestatic 150, 3)) ∧ (decode cX12_pump 22 = .ok (.ifCond .ne 6, 3)) ∧ (decode cX12_pump 25 = .ok (.bipush (-2), 2)) := by decide +kernel
def dX12_pump_0 := edX12_pump_0.1
def dX12_pump_1 := edX12_pump_0.2.1
def dX12_pump_2 := edX12_pump_0.2.2.1
def dX12_pump_3 := edX12_pump_0.2.2.2.1
def dX12_pump_4 := edX12_pump_0.2.2.2.2.1
def dX12_pump_7 := edX12_pump_0.2.2.2.2.2.1
def dX12_pump_10 := edX12_pump_0.2.2.2.2.2.2.1
def dX12_pump_11 := edX12_pump_0.2.2.2.2.2.2.2.1
def dX12_pump_12 := edX12_pump_0.2.2.2.2.2.2.2.2.1
def dX12_pump_13 := edX12_pump_0.2.2.2.2.2.2.2.2.2.1
def dX12_pump_14 := edX12_pump_0.2.2.2.2.2.2.2.2.2.2.1
def dX12_pump_15 := edX12_pump_0.2.2.2.2.2.2.2.2.2.2.2.1
def dX12_pump_16 := edX12_pump_0.2.2.2.2.2.2.2.2.2.2.2.2.1
def dX12_pump_19 := edX12_pump_0.2.2.2.2.2.2.2.2.2.2.2.2.2.1
def dX12_pump_22 := edX12_pump_0.2.2.2.2.2.2.2.2.2.2.2.2.2.2.1
def dX12_pump_25 := edX12_pump_0.2.2.2.2.2.2.2.2.2.2.2.2.2.2.2
theorem edX12_pump_27 : (decode cX12_pump 27 = .ok (.ireturn, 1)) ∧ (decode cX12_pump 28 = .ok (.iload_n 1, 1)) ∧ (decode cX12_pump 29 = .ok (.ifCond .ne 10, 3)) ∧ (decode cX12_pump 32 = .ok (.aload_n 0, 1)) ∧ (decode cX12_pump 33 = .ok (.getfield 184, 3)) ∧ (decode cX12_pump 36 = .ok (.goto 7, 3)) ∧ (decode cX12_pump 39 = .ok (.aload_n 0, 1)) ∧ (decode cX12_pump 40 = .ok (.getfield 129, 3)) ∧ (decode cX12_pump 43 = .ok (.istore_n 3, 1)) ∧ (decode cX12_pump 44 = .ok (.aload_n 0, 1)) ∧ (decode cX12_pump 45 = .ok (.iload_n 1, 1)) ∧ (decode cX12_pump 46 = .ok (.ifCond .ne 7, 3)) ∧ (decode cX12_pump 49 = .ok (.iload_n 2, 1)) ∧ (decode cX12_pump 50 = .ok (.goto 7, 3)) ∧ (decode cX12_pump 53 = .ok (.aload_n 0, 1)) ∧ (decode cX12_pump 54 = .ok (.getfield 184, 3)) := by decide +kernel
def dX12_pump_27 := edX12_pump_27.1
def dX12_pump_28 := edX12_pump_27.2.1
def dX12_pump_29 := edX12_pump_27.2.2.1
def dX12_pump_32 := edX12_pump_27.2.2.2.1
def dX12_pump_33 := edX12_pump_27.2.2.2.2.1
def dX12_pump_36 := edX12_pump_27.2.2.2.2.2.1
def dX12_pump_39 := edX12_pump_27.2.2.2.2.2.2.1
def dX12_pump_40 := edX12_pump_27.2.2.2.2.2.2.2.1
def dX12_pump_43 := edX12_pump_27.2.2.2.2.2.2.2.2.1
def dX12_pump_44 := edX12_pump_27.2.2.2.2.2.2.2.2.2.1
def dX12_pump_45 := edX12_pump_27.2.2.2.2.2.2.2.2.2.2.1
def dX12_pump_46 := edX12_pump_27.2.2.2.2.2.2.2.2.2.2.2.1
def dX12_pump_49 := edX12_pump_27.2.2.2.2.2.2.2.2.2.2.2.2.1
def dX12_pump_50 := edX12_pump_27.2.2.2.2.2.2.2.2.2.2.2.2.2.1
def dX12_pump_53 := edX12_pump_27.2.2.2.2.2.2.2.2.2.2.2.2.2.2.1
def dX12_pump_54 := edX12_pump_27.2.2.2.2.2.2.2.2.2.2.2.2.2.2.2
theorem edX12_pump_57 : (decode cX12_pump 57 = .ok (.putfield 184, 3)) ∧ (decode cX12_pump 60 = .ok (.aload_n 0, 1)) ∧ (decode cX12_pump 61 = .ok (.iload_n 1, 1)) ∧ (decode cX12_pump 62 = .ok (.iconst 1, 1)) ∧ (decode cX12_pump 63 = .ok (.if_icmp .ne 7, 3)) ∧ (decode cX12_pump 66 = .ok (.iload_n 2, 1)) ∧ (decode cX12_pump 67 = .ok (.goto 7, 3)) ∧ (decode cX12_pump 70 = .ok (.aload_n 0, 1)) ∧ (decode cX12_pump 71 = .ok (.getfield 129, 3)) ∧ (decode cX12_pump 74 = .ok (.putfield 129, 3)) ∧ (decode cX12_pump 77 = .ok (.iload_n 3, 1)) ∧ (decode cX12_pump 78 = .ok (.ireturn, 1)) := by decide +kernel
def dX12_pump_57 := edX12_pump_57.1
def dX12_pump_60 := edX12_pump_57.2.1
def dX12_pump_61 := edX12_pump_57.2.2.1
def dX12_pump_62 := edX12_pump_57.2.2.2.1
def dX12_pump_63 := edX12_pump_57.2.2.2.2.1
def dX12_pump_66 := edX12_pump_57.2.2.2.2.2.1
def dX12_pump_67 := edX12_pump_57.2.2.2.2.2.2.1
def dX12_pump_70 := edX12_pump_57.2.2.2.2.2.2.2.1
def dX12_pump_71 := edX12_pump_57.2.2.2.2.2.2.2.2.1
def dX12_pump_74 := edX12_pump_57.2.2.2.2.2.2.2.2.2.1
def dX12_pump_77 := edX12_pump_57.2.2.2.2.2.2.2.2.2.2.1
def dX12_pump_78 := edX12_pump_57.2.2.2.2.2.2.2.2.2.2.2
set_option maxRecDepth 100000 in
theorem ggX12_cylinder_X12_in : GoodIn wsX12_cylinder wsX12_in := goodIn_s _ [] [12] (by decide +kernel) rfl (by decide +kernel)
set_option maxRecDepth 20000 in
theorem gX12_cylinder_X12_in : GoodIn wsX12_cylinder (va_wsS RX12 150 yX12_in wsX12_in) := goodIn_app (goodIn_of _ (by decide +kernel)) ggX12_cylinder_X12_in
theorem edX12_cylinder_0 : (decode cX12_cylinder 0 = .ok (.iload_n 1, 1)) ∧ (decode cX12_cylinder 1 = .ok (.i2l, 1)) ∧ (decode cX12_cylinder 2 = .ok (.lconst 0, 1)) ∧ (decode cX12_cylinder 3 = .ok (.ldc2_w 162, 3)) ∧ (decode cX12_cylinder 6 = .ok (.invokestatic 150, 3)) ∧ (decode cX12_cylinder 9 = .ok (.ifCond .eq 27, 3)) ∧ (decode cX12_cylinder 12 = .ok (.iload_n 2, 1)) ∧ (decode cX12_cylinder 13 = .ok (.i2l, 1)) ∧ (decode cX12_cylinder 14 = .ok (.lconst 1, 1)) ∧ (decode cX12_cylinder 15 = .ok (.ldc2_w 187, 3)) ∧ (decode cX12_cylinder 18 = .ok (.invokestatic 150, 3)) ∧ (decode cX12_cylinder 21 = .ok (.ifCond .eq 15, 3)) ∧ (decode cX12_cylinder 24 = .ok (.iload_n 3, 1)) ∧ (decode cX12_cylinder 25 = .ok (.i2l, 1)) ∧ (decode cX12_cylinder 26 = .ok (.lconst 1, 1)) ∧ (decode cX12_cylinder 27 = .ok (.ldc2_w 187, 3)) := by decide +kernel
def dX12_cylinder_0 := edX12_cylinder_0.1
def dX12_cylinder_1 := edX12_cylinder_0.2.1
def dX12_cylinder_2 := edX12_cylinder_0.2.2.1
def dX12_cylinder_3 := edX12_cylinder_0.2.2.2.1
def dX12_cylinder_6 := edX12_cylinder_0.2.2.2.2.1
def dX12_cylinder_9 := edX12_cylinder_0.2.2.2.2.2.1
def dX12_cylinder_12 := edX12_cylinder_0.2.2.2.2.2.2.1
def dX12_cylinder_13 := edX12_cylinder_0.2.2.2.2.2.2.2.1
def dX12_cylinder_14 := edX12_cylinder_0.2.2.2.2.2.2.2.2.1
def dX12_cylinder_15 := edX12_cylinder_0.2.2.2.2.2.2.2.2.2.1
def dX12_cylinder_18 := edX12_cylinder_0.2.2.2.2.2.2.2.2.2.2.1
def dX12_cylinder_21 := edX12_cylinder_0.2.2.2.2.2.2.2.2.2.2.2.1
def dX12_cylinder_24 := edX12_cylinder_0.2.2.2.2.2.2.2.2.2.2.2.2.1
def dX12_cylinder_25 := edX12_cylinder_0.2.2.2.2.2.2.2.2.2.2.2.2.2.1
def dX12_cylinder_26 := edX12_cylinder_0.2.2.2.2.2.2.2.2.2.2.2.2.2.2.1
def dX12_cylinder_27 := edX12_cylinder_0.2.2.2.2.2.2.2.2.2.2.2.2.2.2.2
theorem edX12_cylinder_30 : (decode cX12_cylinder 30 = .ok (.invokestatic 150, 3)) ∧ (decode cX12_cylinder 33 = .ok (.ifCond .ne 6, 3)) ∧ (decode cX12_cylinder 36 = .ok (.bipush (-2), 2)) ∧ (decode cX12_cylinder 38 = .ok (.ireturn, 1)) ∧ (decode cX12_cylinder 39 = .ok (.aload_n 0, 1)) ∧ (decode cX12_cylinder 40 = .ok (.getfield 179, 3)) ∧ (decode cX12_cylinder 43 = .ok (.bipush 6, 2)) ∧ (decode cX12_cylinder 45 = .ok (.if_icmp .ne 6, 3)) ∧ (decode cX12_cylinder 48 = .ok (.bipush (-4), 2)) ∧ (decode cX12_cylinder 50 = .ok (.ireturn, 1)) ∧ (decode cX12_cylinder 51 = .ok (.aload_n 0, 1)) ∧ (decode cX12_cylinder 52 = .ok (.getfield 22, 3)) ∧ (decode cX12_cylinder 55 = .ok (.aload_n 0, 1)) ∧ (decode cX12_cylinder 56 = .ok (.getfield 179, 3)) ∧ (decode cX12_cylinder 59 = .ok (.iload_n 1, 1)) ∧ (decode cX12_cylinder 60 = .ok (.iastore, 1)) := by decide +kernel
def dX12_cylinder_30 := edX12_cylinder_30.1
def dX12_cylinder_33 := edX12_cylinder_30.2.1
def dX12_cylinder_36 := edX12_cylinder_30.2.2.1
def dX12_cylinder_38 := edX12_cylinder_30.2.2.2.1
def dX12_cylinder_39 := edX12_cylinder_30.2.2.2.2.1
def dX12_cylinder_40 := edX12_cylinder_30.2.2.2.2.2.1
def dX12_cylinder_43 := edX12_cylinder_30.2.2.2.2.2.2.1
def dX12_cylinder_45 := edX12_cylinder_30.2.2.2.2.2.2.2.1
def dX12_cylinder_48 := edX12_cylinder_30.2.2.2.2.2.2.2.2.1
def dX12_cylinder_50 := edX12_cylinder_30.2.2.2.2.2.2.2.2.2.1
def dX12_cylinder_51 := edX12_cylinder_30.2.2.2.2.2.2.2.2.2.2.1
def dX12_cylinder_52 := edX12_cylinder_30.2.2.2.2.2.2.2.2.2.2.2.1
def dX12_cylinder_55 := edX12_cylinder_30.2.2.2.2.2.2.2.2.2.2.2.2.1
def dX12_cylinder_56 := edX12_cylinder_30.2.2.2.2.2.2.2.2.2.2.2.2.2.1
def dX12_cylinder_59 := edX12_cylinder_30.2.2.2.2.2.2.2.2.2.2.2.2.2.2.1
def dX12_cylinder_60 := edX12_cylinder_30.2.2.2.2.2.2.2.2.2.2.2.2.2.2.2
theorem edX12_cylinder_61 : (decode cX12_cylinder 61 = .ok (.aload_n 0, 1)) ∧ (decode cX12_cylinder 62 = .ok (.getfield 25, 3)) ∧ (decode cX12_cylinder 65 = .ok (.aload_n 0, 1)) ∧ (decode cX12_cylinder 66 = .ok (.getfield 179, 3)) ∧ (decode cX12_cylinder 69 = .ok (.iload_n 2, 1)) ∧ (decode cX12_cylinder 70 = .ok (.iastore, 1)) ∧ (decode cX12_cylinder 71 = .ok (.aload_n 0, 1)) ∧ (decode cX12_cylinder 72 = .ok (.getfield 28, 3)) ∧ (decode cX12_cylinder 75 = .ok (.aload_n 0, 1)) ∧ (decode cX12_cylinder 76 = .ok (.getfield 179, 3)) ∧ (decode cX12_cylinder 79 = .ok (.iload_n 3, 1)) ∧ (decode cX12_cylinder 80 = .ok (.iastore, 1)) ∧ (decode cX12_cylinder 81 = .ok (.aload_n 0, 1)) ∧ (decode cX12_cylinder 82 = .ok (.getfield 34, 3)) ∧ (decode cX12_cylinder 85 = .ok (.aload_n 0, 1)) ∧ (decode cX12_cylinder 86 = .ok (.getfield 179, 3)) := by decide +kernel
def dX12_cylinder_61 := edX12_cylinder_61.1
def dX12_cylinder_62 := edX12_cylinder_61.2.1
def dX12_cylinder_65 := edX12_cylinder_61.2.2.1
def dX12_cylinder_66 := edX12_cylinder_61.2.2.2.1
def dX12_cylinder_69 := edX12_cylinder_61.2.2.2.2.1
def dX12_cylinder_70 := edX12_cylinder_61.2.2.2.2.2.1
def dX12_cylinder_71 := edX12_cylinder_61.2.2.2.2.2.2.1
def dX12_cylinder_72 := edX12_cylinder_61.2.2.2.2.2.2.2.1
def dX12_cylinder_75 := edX12_cylinder_61.2.2.2.2.2.2.2.2.1
def dX12_cylinder_76 := edX12_cylinder_61.2.2.2.2.2.2.2.2.2.1
def dX12_cylinder_79 := edX12_cylinder_61.2.2.2.2.2.2.2.2.2.2.1
def dX12_cylinder_80 := edX12_cylinder_61.2.2.2.2.2.2.2.2.2.2.2.1
def dX12_cylinder_81 := edX12_cylinder_61.2.2.2.2.2.2.2.2.2.2.2.2.1
def dX12_cylinder_82 := edX12_cylinder_61.2.2.2.2.2.2.2.2.2.2.2.2.2.1
def dX12_cylinder_85 := edX12_cylinder_61.2.2.2.2.2.2.2.2.2.2.2.2.2.2.1
def dX12_cylinder_86 := edX12_cylinder_61.2.2.2.2.2.2.2.2.2.2.2.2.2.2.2
theorem edX12_cylinder_89 : (decode cX12_cylinder 89 = .ok (.iconst 1, 1)) ∧ (decode cX12_cylinder 90 = .ok (.iastore, 1)) ∧ (decode cX12_cylinder 91 = .ok (.aload_n 0, 1)) ∧ (decode cX12_cylinder 92 = .ok (.getfield 43, 3)) ∧ (decode cX12_cylinder 95 = .ok (.aload_n 0, 1)) ∧ (decode cX12_cylinder 96 = .ok (.getfield 179, 3)) ∧ (decode cX12_cylinder 99 = .ok (.sipush 1000, 3)) ∧ (decode cX12_cylinder 102 = .ok (.iastore, 1)) ∧ (decode cX12_cylinder 103 = .ok (.aload_n 0, 1)) ∧ (decode cX12_cylinder 104 = .ok (.dup, 1)) ∧ (decode cX12_cylinder 105 = .ok (.getfield 179, 3)) ∧ (decode cX12_cylinder 108 = .ok (.iconst 1, 1)) ∧ (decode cX12_cylinder 109 = .ok (.iadd, 1)) ∧ (decode cX12_cylinder 110 = .ok (.putfield 179, 3)) ∧ (decode cX12_cylinder 113 = .ok (.aload_n 0, 1)) ∧ (decode cX12_cylinder 114 = .ok (.getfield 179, 3)) := by decide +kernel
def dX12_cylinder_89 := edX12_cylinder_89.1
def dX12_cylinder_90 := edX12_cylinder_89.2.1
def dX12_cylinder_91 := edX12_cylinder_89.2.2.1
def dX12_cylinder_92 := edX12_cylinder_89.2.2.2.1
def dX12_cylinder_95 := edX12_cylinder_89.2.2.2.2.1
def dX12_cylinder_96 := edX12_cylinder_89.2.2.2.2.2.1
def dX12_cylinder_99 := edX12_cylinder_89.2.2.2.2.2.2.1
def dX12_cylinder_102 := edX12_cylinder_89.2.2.2.2.2.2.2.1
def dX12_cylinder_103 := edX12_cylinder_89.2.2.2.2.2.2.2.2.1
def dX12_cylinder_104 := edX12_cylinder_89.2.2.2.2.2.2.2.2.2.1
def dX12_cylinder_105 := edX12_cylinder_89.2.2.2.2.2.2.2.2.2.2.1
def dX12_cylinder_108 := edX12_cylinder_89.2.2.2.2.2.2.2.2.2.2.2.1
def dX12_cylinder_109 := edX12_cylinder_89.2.2.2.2.2.2.2.2.2.2.2.2.1
def dX12_cylinder_110 := edX12_cylinder_89.2.2.2.2.2.2.2.2.2.2.2.2.2.1
def dX12_cylinder_113 := edX12_cylinder_89.2.2.2.2.2.2.2.2.2.2.2.2.2.2.1
def dX12_cylinder_114 := edX12_cylinder_89.2.2.2.2.2.2.2.2.2.2.2.2.2.2.2
theorem edX12_cylinder_117 : (decode cX12_cylinder 117 = .ok (.iconst 1, 1)) ∧ (decode cX12_cylinder 118 = .ok (.isub, 1)) ∧ (decode cX12_cylinder 119 = .ok (.ireturn, 1)) := by decide +kernel
def dX12_cylinder_117 := edX12_cylinder_117.1
def dX12_cylinder_118 := edX12_cylinder_117.2.1
def dX12_cylinder_119 := edX12_cylinder_117.2.2
set_option maxRecDepth 100000 in
theorem ggX12_rule_X12_noCylinder : GoodIn wsX12_rule wsX12_noCylinder := goodIn_ca (b := wsX120) (goodIn_s _ [13, 14, 15, 11] [12, 16] (by decide +kernel) rfl (by decide +kernel)) (goodIn_sub (fun w h => List.mem_cons_of_mem _ (List.mem_append_right _ h)) gs_wsX120)
set_option maxRecDepth 20000 in
theorem gX12_rule_X12_noCylinder : GoodIn wsX12_rule (wsV RX12 189 RX12 yX12_noCylinder wsX12_noCylinder) := goodIn_app (goodIn_of _ (by decide +kernel)) ggX12_rule_X12_noCylinder
set_option maxRecDepth 100000 in
theorem ggX12_rule_X12_in : GoodIn wsX12_rule wsX12_in := goodIn_s _ [] [16] (by decide +kernel) rfl (by decide +kernel)
set_option maxRecDepth 20000 in
theorem gX12_rule_X12_in : GoodIn wsX12_rule (va_wsS RX12 150 yX12_in wsX12_in) := goodIn_app (goodIn_of _ (by decide +kernel)) ggX12_rule_X12_in
theorem edX12_rule_0 : (decode cX12_rule 0 = .ok (.aload_n 0, 1)) ∧ (decode cX12_rule 1 = .ok (.iload_n 1, 1)) ∧ (decode cX12_rule 2 = .ok (.invokevirtual 189, 3)) ∧ (decode cX12_rule 5 = .ok (.ifCond .ne 15, 3)) ∧ (decode cX12_rule 8 = .ok (.iload_n 2, 1)) ∧ (decode cX12_rule 9 = .ok (.i2l, 1)) ∧ (decode cX12_rule 10 = .ok (.lconst 0, 1)) ∧ (decode cX12_rule 11 = .ok (.ldc2_w 162, 3)) ∧ (decode cX12_rule 14 = .ok (.invokestatic 150, 3)) ∧ (decode cX12_rule 17 = .ok (.ifCond .ne 5, 3)) ∧ (decode cX12_rule 20 = .ok (.iconst (-1), 1)) ∧ (decode cX12_rule 21 = .ok (.ireturn, 1)) ∧ (decode cX12_rule 22 = .ok (.iload_n 3, 1)) ∧ (decode cX12_rule 23 = .ok (.i2l, 1)) ∧ (decode cX12_rule 24 = .ok (.iload_n 2, 1)) ∧ (decode cX12_rule 25 = .ok (.iconst 1, 1)) := by decide +kernel
def dX12_rule_0 := edX12_rule_0.1
def dX12_rule_1 := edX12_rule_0.2.1
def dX12_rule_2 := edX12_rule_0.2.2.1
def dX12_rule_5 := edX12_rule_0.2.2.2.1
def dX12_rule_8 := edX12_rule_0.2.2.2.2.1
def dX12_rule_9 := edX12_rule_0.2.2.2.2.2.1
def dX12_rule_10 := edX12_rule_0.2.2.2.2.2.2.1
def dX12_rule_11 := edX12_rule_0.2.2.2.2.2.2.2.1
def dX12_rule_14 := edX12_rule_0.2.2.2.2.2.2.2.2.1
def dX12_rule_17 := edX12_rule_0.2.2.2.2.2.2.2.2.2.1
def dX12_rule_20 := edX12_rule_0.2.2.2.2.2.2.2.2.2.2.1
def dX12_rule_21 := edX12_rule_0.2.2.2.2.2.2.2.2.2.2.2.1
def dX12_rule_22 := edX12_rule_0.2.2.2.2.2.2.2.2.2.2.2.2.1
def dX12_rule_23 := edX12_rule_0.2.2.2.2.2.2.2.2.2.2.2.2.2.1
def dX12_rule_24 := edX12_rule_0.2.2.2.2.2.2.2.2.2.2.2.2.2.2.1
def dX12_rule_25 := edX12_rule_0.2.2.2.2.2.2.2.2.2.2.2.2.2.2.2
theorem edX12_rule_26 : (decode cX12_rule 26 = .ok (.if_icmp .ne 7, 3)) ∧ (decode cX12_rule 29 = .ok (.lconst 1, 1)) ∧ (decode cX12_rule 30 = .ok (.goto 4, 3)) ∧ (decode cX12_rule 33 = .ok (.lconst 0, 1)) ∧ (decode cX12_rule 34 = .ok (.iload_n 2, 1)) ∧ (decode cX12_rule 35 = .ok (.ifCond .ne 9, 3)) ∧ (decode cX12_rule 38 = .ok (.ldc2_w 192, 3)) ∧ (decode cX12_rule 41 = .ok (.goto 17, 3)) ∧ (decode cX12_rule 44 = .ok (.iload_n 2, 1)) ∧ (decode cX12_rule 45 = .ok (.iconst 1, 1)) ∧ (decode cX12_rule 46 = .ok (.if_icmp .ne 9, 3)) ∧ (decode cX12_rule 49 = .ok (.ldc2_w 182, 3)) ∧ (decode cX12_rule 52 = .ok (.goto 6, 3)) ∧ (decode cX12_rule 55 = .ok (.ldc2_w 187, 3)) ∧ (decode cX12_rule 58 = .ok (.invokestatic 150, 3)) ∧ (decode cX12_rule 61 = .ok (.ifCond .ne 6, 3)) := by decide +kernel
def dX12_rule_26 := edX12_rule_26.1
def dX12_rule_29 := edX12_rule_26.2.1
def dX12_rule_30 := edX12_rule_26.2.2.1
def dX12_rule_33 := edX12_rule_26.2.2.2.1
def dX12_rule_34 := edX12_rule_26.2.2.2.2.1
def dX12_rule_35 := edX12_rule_26.2.2.2.2.2.1
def dX12_rule_38 := edX12_rule_26.2.2.2.2.2.2.1
def dX12_rule_41 := edX12_rule_26.2.2.2.2.2.2.2.1
def dX12_rule_44 := edX12_rule_26.2.2.2.2.2.2.2.2.1
def dX12_rule_45 := edX12_rule_26.2.2.2.2.2.2.2.2.2.1
def dX12_rule_46 := edX12_rule_26.2.2.2.2.2.2.2.2.2.2.1
def dX12_rule_49 := edX12_rule_26.2.2.2.2.2.2.2.2.2.2.2.1
def dX12_rule_52 := edX12_rule_26.2.2.2.2.2.2.2.2.2.2.2.2.1
def dX12_rule_55 := edX12_rule_26.2.2.2.2.2.2.2.2.2.2.2.2.2.1
def dX12_rule_58 := edX12_rule_26.2.2.2.2.2.2.2.2.2.2.2.2.2.2.1
def dX12_rule_61 := edX12_rule_26.2.2.2.2.2.2.2.2.2.2.2.2.2.2.2
theorem edX12_rule_64 : (decode cX12_rule 64 = .ok (.bipush (-2), 2)) ∧ (decode cX12_rule 66 = .ok (.ireturn, 1)) ∧ (decode cX12_rule 67 = .ok (.iload_n 2, 1)) ∧ (decode cX12_rule 68 = .ok (.ifCond .ne 12, 3)) ∧ (decode cX12_rule 71 = .ok (.aload_n 0, 1)) ∧ (decode cX12_rule 72 = .ok (.getfield 40, 3)) ∧ (decode cX12_rule 75 = .ok (.iload_n 1, 1)) ∧ (decode cX12_rule 76 = .ok (.iaload, 1)) ∧ (decode cX12_rule 77 = .ok (.goto 23, 3)) ∧ (decode cX12_rule 80 = .ok (.iload_n 2, 1)) ∧ (decode cX12_rule 81 = .ok (.iconst 1, 1)) ∧ (decode cX12_rule 82 = .ok (.if_icmp .ne 12, 3)) ∧ (decode cX12_rule 85 = .ok (.aload_n 0, 1)) ∧ (decode cX12_rule 86 = .ok (.getfield 43, 3)) ∧ (decode cX12_rule 89 = .ok (.iload_n 1, 1)) ∧ (decode cX12_rule 90 = .ok (.iaload, 1)) := by decide +kernel
def dX12_rule_64 := edX12_rule_64.1
def dX12_rule_66 := edX12_rule_64.2.1
def dX12_rule_67 := edX12_rule_64.2.2.1
def dX12_rule_68 := edX12_rule_64.2.2.2.1
def dX12_rule_71 := edX12_rule_64.2.2.2.2.1
def dX12_rule_72 := edX12_rule_64.2.2.2.2.2.1
def dX12_rule_75 := edX12_rule_64.2.2.2.2.2.2.1
def dX12_rule_76 := edX12_rule_64.2.2.2.2.2.2.2.1
def dX12_rule_77 := edX12_rule_64.2.2.2.2.2.2.2.2.1
def dX12_rule_80 := edX12_rule_64.2.2.2.2.2.2.2.2.2.1
def dX12_rule_81 := edX12_rule_64.2.2.2.2.2.2.2.2.2.2.1
def dX12_rule_82 := edX12_rule_64.2.2.2.2.2.2.2.2.2.2.2.1
def dX12_rule_85 := edX12_rule_64.2.2.2.2.2.2.2.2.2.2.2.2.1
def dX12_rule_86 := edX12_rule_64.2.2.2.2.2.2.2.2.2.2.2.2.2.1
def dX12_rule_89 := edX12_rule_64.2.2.2.2.2.2.2.2.2.2.2.2.2.2.1
def dX12_rule_90 := edX12_rule_64.2.2.2.2.2.2.2.2.2.2.2.2.2.2.2
theorem edX12_rule_91 : (decode cX12_rule 91 = .ok (.goto 9, 3)) ∧ (decode cX12_rule 94 = .ok (.aload_n 0, 1)) ∧ (decode cX12_rule 95 = .ok (.getfield 46, 3)) ∧ (decode cX12_rule 98 = .ok (.iload_n 1, 1)) ∧ (decode cX12_rule 99 = .ok (.iaload, 1)) ∧ (decode cX12_rule 100 = .ok (.istore 4, 2)) ∧ (decode cX12_rule 102 = .ok (.aload_n 0, 1)) ∧ (decode cX12_rule 103 = .ok (.getfield 40, 3)) ∧ (decode cX12_rule 106 = .ok (.iload_n 1, 1)) ∧ (decode cX12_rule 107 = .ok (.iload_n 2, 1)) ∧ (decode cX12_rule 108 = .ok (.ifCond .ne 7, 3)) ∧ (decode cX12_rule 111 = .ok (.iload_n 3, 1)) ∧ (decode cX12_rule 112 = .ok (.goto 9, 3)) ∧ (decode cX12_rule 115 = .ok (.aload_n 0, 1)) ∧ (decode cX12_rule 116 = .ok (.getfield 40, 3)) ∧ (decode cX12_rule 119 = .ok (.iload_n 1, 1)) := by decide +kernel
def dX12_rule_91 := edX12_rule_91.1
def dX12_rule_94 := edX12_rule_91.2.1
def dX12_rule_95 := edX12_rule_91.2.2.1
def dX12_rule_98 := edX12_rule_91.2.2.2.1
def dX12_rule_99 := edX12_rule_91.2.2.2.2.1
def dX12_rule_100 := edX12_rule_91.2.2.2.2.2.1
def dX12_rule_102 := edX12_rule_91.2.2.2.2.2.2.1
def dX12_rule_103 := edX12_rule_91.2.2.2.2.2.2.2.1
def dX12_rule_106 := edX12_rule_91.2.2.2.2.2.2.2.2.1
def dX12_rule_107 := edX12_rule_91.2.2.2.2.2.2.2.2.2.1
def dX12_rule_108 := edX12_rule_91.2.2.2.2.2.2.2.2.2.2.1
def dX12_rule_111 := edX12_rule_91.2.2.2.2.2.2.2.2.2.2.2.1
def dX12_rule_112 := edX12_rule_91.2.2.2.2.2.2.2.2.2.2.2.2.1
def dX12_rule_115 := edX12_rule_91.2.2.2.2.2.2.2.2.2.2.2.2.2.1
def dX12_rule_116 := edX12_rule_91.2.2.2.2.2.2.2.2.2.2.2.2.2.2.1
def dX12_rule_119 := edX12_rule_91.2.2.2.2.2.2.2.2.2.2.2.2.2.2.2
theorem edX12_rule_120 : (decode cX12_rule 120 = .ok (.iaload, 1)) ∧ (decode cX12_rule 121 = .ok (.iastore, 1)) ∧ (decode cX12_rule 122 = .ok (.aload_n 0, 1)) ∧ (decode cX12_rule 123 = .ok (.getfield 43, 3)) ∧ (decode cX12_rule 126 = .ok (.iload_n 1, 1)) ∧ (decode cX12_rule 127 = .ok (.iload_n 2, 1)) ∧ (decode cX12_rule 128 = .ok (.iconst 1, 1)) ∧ (decode cX12_rule 129 = .ok (.if_icmp .ne 7, 3)) ∧ (decode cX12_rule 132 = .ok (.iload_n 3, 1)) ∧ (decode cX12_rule 133 = .ok (.goto 9, 3)) ∧ (decode cX12_rule 136 = .ok (.aload_n 0, 1)) ∧ (decode cX12_rule 137 = .ok (.getfield 43, 3)) ∧ (decode cX12_rule 140 = .ok (.iload_n 1, 1)) ∧ (decode cX12_rule 141 = .ok (.iaload, 1)) ∧ (decode cX12_rule 142 = .ok (.iastore, 1)) ∧ (decode cX12_rule 143 = .ok (.aload_n 0, 1)) := by decide +kernel
def dX12_rule_120 := edX12_rule_120.1
def dX12_rule_121 := edX12_rule_120.2.1
def dX12_rule_122 := edX12_rule_120.2.2.1
def dX12_rule_123 := edX12_rule_120.2.2.2.1
def dX12_rule_126 := edX12_rule_120.2.2.2.2.1
def dX12_rule_127 := edX12_rule_120.2.2.2.2.2.1
def dX12_rule_128 := edX12_rule_120.2.2.2.2.2.2.1
def dX12_rule_129 := edX12_rule_120.2.2.2.2.2.2.2.1
def dX12_rule_132 := edX12_rule_120.2.2.2.2.2.2.2.2.1
def dX12_rule_133 := edX12_rule_120.2.2.2.2.2.2.2.2.2.1
def dX12_rule_136 := edX12_rule_120.2.2.2.2.2.2.2.2.2.2.1
def dX12_rule_137 := edX12_rule_120.2.2.2.2.2.2.2.2.2.2.2.1
def dX12_rule_140 := edX12_rule_120.2.2.2.2.2.2.2.2.2.2.2.2.1
def dX12_rule_141 := edX12_rule_120.2.2.2.2.2.2.2.2.2.2.2.2.2.1
def dX12_rule_142 := edX12_rule_120.2.2.2.2.2.2.2.2.2.2.2.2.2.2.1
def dX12_rule_143 := edX12_rule_120.2.2.2.2.2.2.2.2.2.2.2.2.2.2.2
theorem edX12_rule_144 : (decode cX12_rule 144 = .ok (.getfield 46, 3)) ∧ (decode cX12_rule 147 = .ok (.iload_n 1, 1)) ∧ (decode cX12_rule 148 = .ok (.iload_n 2, 1)) ∧ (decode cX12_rule 149 = .ok (.iconst 2, 1)) ∧ (decode cX12_rule 150 = .ok (.if_icmp .ne 7, 3)) ∧ (decode cX12_rule 153 = .ok (.iload_n 3, 1)) ∧ (decode cX12_rule 154 = .ok (.goto 9, 3)) ∧ (decode cX12_rule 157 = .ok (.aload_n 0, 1)) ∧ (decode cX12_rule 158 = .ok (.getfield 46, 3)) ∧ (decode cX12_rule 161 = .ok (.iload_n 1, 1)) ∧ (decode cX12_rule 162 = .ok (.iaload, 1)) ∧ (decode cX12_rule 163 = .ok (.iastore, 1)) ∧ (decode cX12_rule 164 = .ok (.iload 4, 2)) ∧ (decode cX12_rule 166 = .ok (.ireturn, 1)) := by decide +kernel
def dX12_rule_144 := edX12_rule_144.1
def dX12_rule_147 := edX12_rule_144.2.1
def dX12_rule_148 := edX12_rule_144.2.2.1
def dX12_rule_149 := edX12_rule_144.2.2.2.1
def dX12_rule_150 := edX12_rule_144.2.2.2.2.1
def dX12_rule_153 := edX12_rule_144.2.2.2.2.2.1
def dX12_rule_154 := edX12_rule_144.2.2.2.2.2.2.1
def dX12_rule_157 := edX12_rule_144.2.2.2.2.2.2.2.1
def dX12_rule_158 := edX12_rule_144.2.2.2.2.2.2.2.2.1
def dX12_rule_161 := edX12_rule_144.2.2.2.2.2.2.2.2.2.1
def dX12_rule_162 := edX12_rule_144.2.2.2.2.2.2.2.2.2.2.1
def dX12_rule_163 := edX12_rule_144.2.2.2.2.2.2.2.2.2.2.2.1
def dX12_rule_164 := edX12_rule_144.2.2.2.2.2.2.2.2.2.2.2.2.1
def dX12_rule_166 := edX12_rule_144.2.2.2.2.2.2.2.2.2.2.2.2.2
set_option maxRecDepth 100000 in
theorem ggX12_loads_X12_noCylinder : GoodIn wsX12_loads wsX12_noCylinder := goodIn_ca (b := wsX120) (goodIn_s _ [14, 15, 16, 12] [13, 17] (by decide +kernel) rfl (by decide +kernel)) (goodIn_sub (fun w h => List.mem_cons_of_mem _ (List.mem_append_right _ h)) gs_wsX120)
set_option maxRecDepth 20000 in
theorem gX12_loads_X12_noCylinder : GoodIn wsX12_loads (wsV RX12 189 RX12 yX12_noCylinder wsX12_noCylinder) := goodIn_app (goodIn_of _ (by decide +kernel)) ggX12_loads_X12_noCylinder
set_option maxRecDepth 100000 in
theorem ggX12_loads_X12_noSheet : GoodIn wsX12_loads wsX12_noSheet := goodIn_s _ [21, 15, 16, 12] [20, 17] (by decide +kernel) rfl (by decide +kernel)
set_option maxRecDepth 20000 in
theorem gX12_loads_X12_noSheet : GoodIn wsX12_loads (va_wsS RX12 154 yX12_noSheet wsX12_noSheet) := goodIn_app (goodIn_of _ (by decide +kernel)) ggX12_loads_X12_noSheet
set_option maxRecDepth 100000 in
theorem ggX12_loads_X12_refused : GoodIn wsX12_loads wsX12_refused := goodIn_ca (b := wsX120) (goodIn_s _ [26] [25] (by decide +kernel) rfl (by decide +kernel)) (goodIn_sub (fun w h => List.mem_cons_of_mem _ (List.mem_append_right _ h)) gs_wsX120)
set_option maxRecDepth 20000 in
theorem gX12_loads_X12_refused : GoodIn wsX12_loads (wsV RX12 158 RX12 yX12_refused wsX12_refused) := goodIn_app (goodIn_of _ (by decide +kernel)) ggX12_loads_X12_refused
set_option maxRecDepth 100000 in
theorem ggX12_loads_X12_in : GoodIn wsX12_loads wsX12_in := goodIn_s _ [] [17] (by decide +kernel) rfl (by decide +kernel)
set_option maxRecDepth 20000 in
theorem gX12_loads_X12_in : GoodIn wsX12_loads (va_wsS RX12 150 yX12_in wsX12_in) := goodIn_app (goodIn_of _ (by decide +kernel)) ggX12_loads_X12_in
set_option maxRecDepth 100000 in
theorem ggX12_loads_X12_failed : GoodIn wsX12_loads wsX12_failed := goodIn_ca (b := wsX120) (goodIn_s _ [26] [30] (by decide +kernel) rfl (by decide +kernel)) (goodIn_sub (fun w h => List.mem_cons_of_mem _ (List.mem_append_right _ h)) gs_wsX120)
set_option maxRecDepth 20000 in
theorem gX12_loads_X12_failed : GoodIn wsX12_loads (wsV RX12 164 RX12 yX12_failed wsX12_failed) := goodIn_app (goodIn_of _ (by decide +kernel)) ggX12_loads_X12_failed
set_option maxRecDepth 100000 in
theorem ggX12_loads_X12_isBeyond : GoodIn wsX12_loads wsX12_isBeyond := goodIn_s _ [] [33] (by decide +kernel) rfl (by decide +kernel)
set_option maxRecDepth 20000 in
theorem gX12_loads_X12_isBeyond : GoodIn wsX12_loads (va_wsS RX12 175 yX12_isBeyond wsX12_isBeyond) := goodIn_app (goodIn_of _ (by decide +kernel)) ggX12_loads_X12_isBeyond
theorem edX12_loads_0 : (decode cX12_loads 0 = .ok (.aload_n 0, 1)) ∧ (decode cX12_loads 1 = .ok (.iload_n 1, 1)) ∧ (decode cX12_loads 2 = .ok (.invokevirtual 189, 3)) ∧ (decode cX12_loads 5 = .ok (.ifCond .ne 10, 3)) ∧ (decode cX12_loads 8 = .ok (.iload_n 2, 1)) ∧ (decode cX12_loads 9 = .ok (.invokestatic 154, 3)) ∧ (decode cX12_loads 12 = .ok (.ifCond .eq 9, 3)) ∧ (decode cX12_loads 15 = .ok (.aload_n 0, 1)) ∧ (decode cX12_loads 16 = .ok (.iconst (-1), 1)) ∧ (decode cX12_loads 17 = .ok (.invokevirtual 158, 3)) ∧ (decode cX12_loads 20 = .ok (.ireturn, 1)) ∧ (decode cX12_loads 21 = .ok (.iload_n 3, 1)) ∧ (decode cX12_loads 22 = .ok (.i2l, 1)) ∧ (decode cX12_loads 23 = .ok (.lconst 0, 1)) ∧ (decode cX12_loads 24 = .ok (.ldc2_w 162, 3)) ∧ (decode cX12_loads 27 = .ok (.invokestatic 150, 3)) := by decide +kernel
def dX12_loads_0 := edX12_loads_0.1
def dX12_loads_1 := edX12_loads_0.2.1
def dX12_loads_2 := edX12_loads_0.2.2.1
def dX12_loads_5 := edX12_loads_0.2.2.2.1
def dX12_loads_8 := edX12_loads_0.2.2.2.2.1
def dX12_loads_9 := edX12_loads_0.2.2.2.2.2.1
def dX12_loads_12 := edX12_loads_0.2.2.2.2.2.2.1
def dX12_loads_15 := edX12_loads_0.2.2.2.2.2.2.2.1
def dX12_loads_16 := edX12_loads_0.2.2.2.2.2.2.2.2.1
def dX12_loads_17 := edX12_loads_0.2.2.2.2.2.2.2.2.2.1
def dX12_loads_20 := edX12_loads_0.2.2.2.2.2.2.2.2.2.2.1
def dX12_loads_21 := edX12_loads_0.2.2.2.2.2.2.2.2.2.2.2.1
def dX12_loads_22 := edX12_loads_0.2.2.2.2.2.2.2.2.2.2.2.2.1
def dX12_loads_23 := edX12_loads_0.2.2.2.2.2.2.2.2.2.2.2.2.2.1
def dX12_loads_24 := edX12_loads_0.2.2.2.2.2.2.2.2.2.2.2.2.2.2.1
def dX12_loads_27 := edX12_loads_0.2.2.2.2.2.2.2.2.2.2.2.2.2.2.2
theorem edX12_loads_30 : (decode cX12_loads 30 = .ok (.ifCond .ne 10, 3)) ∧ (decode cX12_loads 33 = .ok (.aload_n 0, 1)) ∧ (decode cX12_loads 34 = .ok (.bipush (-2), 2)) ∧ (decode cX12_loads 36 = .ok (.invokevirtual 158, 3)) ∧ (decode cX12_loads 39 = .ok (.ireturn, 1)) ∧ (decode cX12_loads 40 = .ok (.aload_n 0, 1)) ∧ (decode cX12_loads 41 = .ok (.getfield 7, 3)) ∧ (decode cX12_loads 44 = .ok (.iload_n 2, 1)) ∧ (decode cX12_loads 45 = .ok (.iaload, 1)) ∧ (decode cX12_loads 46 = .ok (.ifCond .lt 19, 3)) ∧ (decode cX12_loads 49 = .ok (.aload_n 0, 1)) ∧ (decode cX12_loads 50 = .ok (.getfield 13, 3)) ∧ (decode cX12_loads 53 = .ok (.iload_n 2, 1)) ∧ (decode cX12_loads 54 = .ok (.iaload, 1)) ∧ (decode cX12_loads 55 = .ok (.iload_n 3, 1)) ∧ (decode cX12_loads 56 = .ok (.if_icmp .eq 9, 3)) := by decide +kernel
def dX12_loads_30 := edX12_loads_30.1
def dX12_loads_33 := edX12_loads_30.2.1
def dX12_loads_34 := edX12_loads_30.2.2.1
def dX12_loads_36 := edX12_loads_30.2.2.2.1
def dX12_loads_39 := edX12_loads_30.2.2.2.2.1
def dX12_loads_40 := edX12_loads_30.2.2.2.2.2.1
def dX12_loads_41 := edX12_loads_30.2.2.2.2.2.2.1
def dX12_loads_44 := edX12_loads_30.2.2.2.2.2.2.2.1
def dX12_loads_45 := edX12_loads_30.2.2.2.2.2.2.2.2.1
def dX12_loads_46 := edX12_loads_30.2.2.2.2.2.2.2.2.2.1
def dX12_loads_49 := edX12_loads_30.2.2.2.2.2.2.2.2.2.2.1
def dX12_loads_50 := edX12_loads_30.2.2.2.2.2.2.2.2.2.2.2.1
def dX12_loads_53 := edX12_loads_30.2.2.2.2.2.2.2.2.2.2.2.2.1
def dX12_loads_54 := edX12_loads_30.2.2.2.2.2.2.2.2.2.2.2.2.2.1
def dX12_loads_55 := edX12_loads_30.2.2.2.2.2.2.2.2.2.2.2.2.2.2.1
def dX12_loads_56 := edX12_loads_30.2.2.2.2.2.2.2.2.2.2.2.2.2.2.2
theorem edX12_loads_59 : (decode cX12_loads 59 = .ok (.aload_n 0, 1)) ∧ (decode cX12_loads 60 = .ok (.iconst 2, 1)) ∧ (decode cX12_loads 61 = .ok (.invokevirtual 164, 3)) ∧ (decode cX12_loads 64 = .ok (.ireturn, 1)) ∧ (decode cX12_loads 65 = .ok (.aload_n 0, 1)) ∧ (decode cX12_loads 66 = .ok (.getfield 7, 3)) ∧ (decode cX12_loads 69 = .ok (.iload_n 2, 1)) ∧ (decode cX12_loads 70 = .ok (.iaload, 1)) ∧ (decode cX12_loads 71 = .ok (.ifCond .ge 9, 3)) ∧ (decode cX12_loads 74 = .ok (.aload_n 0, 1)) ∧ (decode cX12_loads 75 = .ok (.iconst 1, 1)) ∧ (decode cX12_loads 76 = .ok (.invokevirtual 164, 3)) ∧ (decode cX12_loads 79 = .ok (.ireturn, 1)) ∧ (decode cX12_loads 80 = .ok (.iload 5, 2)) ∧ (decode cX12_loads 82 = .ok (.ifCond .ge 9, 3)) ∧ (decode cX12_loads 85 = .ok (.aload_n 0, 1)) := by decide +kernel
def dX12_loads_59 := edX12_loads_59.1
def dX12_loads_60 := edX12_loads_59.2.1
def dX12_loads_61 := edX12_loads_59.2.2.1
def dX12_loads_64 := edX12_loads_59.2.2.2.1
def dX12_loads_65 := edX12_loads_59.2.2.2.2.1
def dX12_loads_66 := edX12_loads_59.2.2.2.2.2.1
def dX12_loads_69 := edX12_loads_59.2.2.2.2.2.2.1
def dX12_loads_70 := edX12_loads_59.2.2.2.2.2.2.2.1
def dX12_loads_71 := edX12_loads_59.2.2.2.2.2.2.2.2.1
def dX12_loads_74 := edX12_loads_59.2.2.2.2.2.2.2.2.2.1
def dX12_loads_75 := edX12_loads_59.2.2.2.2.2.2.2.2.2.2.1
def dX12_loads_76 := edX12_loads_59.2.2.2.2.2.2.2.2.2.2.2.1
def dX12_loads_79 := edX12_loads_59.2.2.2.2.2.2.2.2.2.2.2.2.1
def dX12_loads_80 := edX12_loads_59.2.2.2.2.2.2.2.2.2.2.2.2.2.1
def dX12_loads_82 := edX12_loads_59.2.2.2.2.2.2.2.2.2.2.2.2.2.2.1
def dX12_loads_85 := edX12_loads_59.2.2.2.2.2.2.2.2.2.2.2.2.2.2.2
theorem edX12_loads_86 : (decode cX12_loads 86 = .ok (.iconst 4, 1)) ∧ (decode cX12_loads 87 = .ok (.invokevirtual 164, 3)) ∧ (decode cX12_loads 90 = .ok (.ireturn, 1)) ∧ (decode cX12_loads 91 = .ok (.iload 4, 2)) ∧ (decode cX12_loads 93 = .ok (.iload 5, 2)) ∧ (decode cX12_loads 95 = .ok (.aload_n 0, 1)) ∧ (decode cX12_loads 96 = .ok (.getfield 7, 3)) ∧ (decode cX12_loads 99 = .ok (.iload_n 2, 1)) ∧ (decode cX12_loads 100 = .ok (.iaload, 1)) ∧ (decode cX12_loads 101 = .ok (.invokestatic 175, 3)) ∧ (decode cX12_loads 104 = .ok (.ifCond .eq 9, 3)) ∧ (decode cX12_loads 107 = .ok (.aload_n 0, 1)) ∧ (decode cX12_loads 108 = .ok (.iconst 3, 1)) ∧ (decode cX12_loads 109 = .ok (.invokevirtual 164, 3)) ∧ (decode cX12_loads 112 = .ok (.ireturn, 1)) ∧ (decode cX12_loads 113 = .ok (.iload 5, 2)) := by decide +kernel
def dX12_loads_86 := edX12_loads_86.1
def dX12_loads_87 := edX12_loads_86.2.1
def dX12_loads_90 := edX12_loads_86.2.2.1
def dX12_loads_91 := edX12_loads_86.2.2.2.1
def dX12_loads_93 := edX12_loads_86.2.2.2.2.1
def dX12_loads_95 := edX12_loads_86.2.2.2.2.2.1
def dX12_loads_96 := edX12_loads_86.2.2.2.2.2.2.1
def dX12_loads_99 := edX12_loads_86.2.2.2.2.2.2.2.1
def dX12_loads_100 := edX12_loads_86.2.2.2.2.2.2.2.2.1
def dX12_loads_101 := edX12_loads_86.2.2.2.2.2.2.2.2.2.1
def dX12_loads_104 := edX12_loads_86.2.2.2.2.2.2.2.2.2.2.1
def dX12_loads_107 := edX12_loads_86.2.2.2.2.2.2.2.2.2.2.2.1
def dX12_loads_108 := edX12_loads_86.2.2.2.2.2.2.2.2.2.2.2.2.1
def dX12_loads_109 := edX12_loads_86.2.2.2.2.2.2.2.2.2.2.2.2.2.1
def dX12_loads_112 := edX12_loads_86.2.2.2.2.2.2.2.2.2.2.2.2.2.2.1
def dX12_loads_113 := edX12_loads_86.2.2.2.2.2.2.2.2.2.2.2.2.2.2.2
theorem edX12_loads_115 : (decode cX12_loads 115 = .ok (.i2l, 1)) ∧ (decode cX12_loads 116 = .ok (.lconst 1, 1)) ∧ (decode cX12_loads 117 = .ok (.ldc2_w 194, 3)) ∧ (decode cX12_loads 120 = .ok (.invokestatic 150, 3)) ∧ (decode cX12_loads 123 = .ok (.ifCond .ne 10, 3)) ∧ (decode cX12_loads 126 = .ok (.aload_n 0, 1)) ∧ (decode cX12_loads 127 = .ok (.bipush (-2), 2)) ∧ (decode cX12_loads 129 = .ok (.invokevirtual 158, 3)) ∧ (decode cX12_loads 132 = .ok (.ireturn, 1)) ∧ (decode cX12_loads 133 = .ok (.iconst 0, 1)) ∧ (decode cX12_loads 134 = .ok (.istore 6, 2)) ∧ (decode cX12_loads 136 = .ok (.iload 6, 2)) ∧ (decode cX12_loads 138 = .ok (.iload 5, 2)) ∧ (decode cX12_loads 140 = .ok (.if_icmp .ge 42, 3)) ∧ (decode cX12_loads 143 = .ok (.aload_n 0, 1)) ∧ (decode cX12_loads 144 = .ok (.getfield 16, 3)) := by decide +kernel
def dX12_loads_115 := edX12_loads_115.1
def dX12_loads_116 := edX12_loads_115.2.1
def dX12_loads_117 := edX12_loads_115.2.2.1
def dX12_loads_120 := edX12_loads_115.2.2.2.1
def dX12_loads_123 := edX12_loads_115.2.2.2.2.1
def dX12_loads_126 := edX12_loads_115.2.2.2.2.2.1
def dX12_loads_127 := edX12_loads_115.2.2.2.2.2.2.1
def dX12_loads_129 := edX12_loads_115.2.2.2.2.2.2.2.1
def dX12_loads_132 := edX12_loads_115.2.2.2.2.2.2.2.2.1
def dX12_loads_133 := edX12_loads_115.2.2.2.2.2.2.2.2.2.1
def dX12_loads_134 := edX12_loads_115.2.2.2.2.2.2.2.2.2.2.1
def dX12_loads_136 := edX12_loads_115.2.2.2.2.2.2.2.2.2.2.2.1
def dX12_loads_138 := edX12_loads_115.2.2.2.2.2.2.2.2.2.2.2.2.1
def dX12_loads_140 := edX12_loads_115.2.2.2.2.2.2.2.2.2.2.2.2.2.1
def dX12_loads_143 := edX12_loads_115.2.2.2.2.2.2.2.2.2.2.2.2.2.2.1
def dX12_loads_144 := edX12_loads_115.2.2.2.2.2.2.2.2.2.2.2.2.2.2.2
theorem edX12_loads_147 : (decode cX12_loads 147 = .ok (.bipush 20, 2)) ∧ (decode cX12_loads 149 = .ok (.iload_n 2, 1)) ∧ (decode cX12_loads 150 = .ok (.imul, 1)) ∧ (decode cX12_loads 151 = .ok (.iload 4, 2)) ∧ (decode cX12_loads 153 = .ok (.iadd, 1)) ∧ (decode cX12_loads 154 = .ok (.iload 6, 2)) ∧ (decode cX12_loads 156 = .ok (.iadd, 1)) ∧ (decode cX12_loads 157 = .ok (.iaload, 1)) ∧ (decode cX12_loads 158 = .ok (.i2l, 1)) ∧ (decode cX12_loads 159 = .ok (.lconst 0, 1)) ∧ (decode cX12_loads 160 = .ok (.ldc2_w 196, 3)) ∧ (decode cX12_loads 163 = .ok (.invokestatic 150, 3)) ∧ (decode cX12_loads 166 = .ok (.ifCond .ne 10, 3)) ∧ (decode cX12_loads 169 = .ok (.aload_n 0, 1)) ∧ (decode cX12_loads 170 = .ok (.bipush (-2), 2)) ∧ (decode cX12_loads 172 = .ok (.invokevirtual 158, 3)) := by decide +kernel
def dX12_loads_147 := edX12_loads_147.1
def dX12_loads_149 := edX12_loads_147.2.1
def dX12_loads_150 := edX12_loads_147.2.2.1
def dX12_loads_151 := edX12_loads_147.2.2.2.1
def dX12_loads_153 := edX12_loads_147.2.2.2.2.1
def dX12_loads_154 := edX12_loads_147.2.2.2.2.2.1
def dX12_loads_156 := edX12_loads_147.2.2.2.2.2.2.1
def dX12_loads_157 := edX12_loads_147.2.2.2.2.2.2.2.1
def dX12_loads_158 := edX12_loads_147.2.2.2.2.2.2.2.2.1
def dX12_loads_159 := edX12_loads_147.2.2.2.2.2.2.2.2.2.1
def dX12_loads_160 := edX12_loads_147.2.2.2.2.2.2.2.2.2.2.1
def dX12_loads_163 := edX12_loads_147.2.2.2.2.2.2.2.2.2.2.2.1
def dX12_loads_166 := edX12_loads_147.2.2.2.2.2.2.2.2.2.2.2.2.1
def dX12_loads_169 := edX12_loads_147.2.2.2.2.2.2.2.2.2.2.2.2.2.1
def dX12_loads_170 := edX12_loads_147.2.2.2.2.2.2.2.2.2.2.2.2.2.2.1
def dX12_loads_172 := edX12_loads_147.2.2.2.2.2.2.2.2.2.2.2.2.2.2.2
theorem edX12_loads_175 : (decode cX12_loads 175 = .ok (.ireturn, 1)) ∧ (decode cX12_loads 176 = .ok (.iinc 6 1, 3)) ∧ (decode cX12_loads 179 = .ok (.goto (-43), 3)) ∧ (decode cX12_loads 182 = .ok (.aload_n 0, 1)) ∧ (decode cX12_loads 183 = .ok (.getfield 34, 3)) ∧ (decode cX12_loads 186 = .ok (.iload_n 1, 1)) ∧ (decode cX12_loads 187 = .ok (.iload 5, 2)) ∧ (decode cX12_loads 189 = .ok (.iastore, 1)) ∧ (decode cX12_loads 190 = .ok (.iconst 0, 1)) ∧ (decode cX12_loads 191 = .ok (.istore 6, 2)) ∧ (decode cX12_loads 193 = .ok (.iload 6, 2)) ∧ (decode cX12_loads 195 = .ok (.iload 5, 2)) ∧ (decode cX12_loads 197 = .ok (.if_icmp .ge 36, 3)) ∧ (decode cX12_loads 200 = .ok (.aload_n 0, 1)) ∧ (decode cX12_loads 201 = .ok (.getfield 37, 3)) ∧ (decode cX12_loads 204 = .ok (.bipush 10, 2)) := by decide +kernel
def dX12_loads_175 := edX12_loads_175.1
def dX12_loads_176 := edX12_loads_175.2.1
def dX12_loads_179 := edX12_loads_175.2.2.1
def dX12_loads_182 := edX12_loads_175.2.2.2.1
def dX12_loads_183 := edX12_loads_175.2.2.2.2.1
def dX12_loads_186 := edX12_loads_175.2.2.2.2.2.1
def dX12_loads_187 := edX12_loads_175.2.2.2.2.2.2.1
def dX12_loads_189 := edX12_loads_175.2.2.2.2.2.2.2.1
def dX12_loads_190 := edX12_loads_175.2.2.2.2.2.2.2.2.1
def dX12_loads_191 := edX12_loads_175.2.2.2.2.2.2.2.2.2.1
def dX12_loads_193 := edX12_loads_175.2.2.2.2.2.2.2.2.2.2.1
def dX12_loads_195 := edX12_loads_175.2.2.2.2.2.2.2.2.2.2.2.1
def dX12_loads_197 := edX12_loads_175.2.2.2.2.2.2.2.2.2.2.2.2.1
def dX12_loads_200 := edX12_loads_175.2.2.2.2.2.2.2.2.2.2.2.2.2.1
def dX12_loads_201 := edX12_loads_175.2.2.2.2.2.2.2.2.2.2.2.2.2.2.1
def dX12_loads_204 := edX12_loads_175.2.2.2.2.2.2.2.2.2.2.2.2.2.2.2
theorem edX12_loads_206 : (decode cX12_loads 206 = .ok (.iload_n 1, 1)) ∧ (decode cX12_loads 207 = .ok (.imul, 1)) ∧ (decode cX12_loads 208 = .ok (.iload 6, 2)) ∧ (decode cX12_loads 210 = .ok (.iadd, 1)) ∧ (decode cX12_loads 211 = .ok (.aload_n 0, 1)) ∧ (decode cX12_loads 212 = .ok (.getfield 16, 3)) ∧ (decode cX12_loads 215 = .ok (.bipush 20, 2)) ∧ (decode cX12_loads 217 = .ok (.iload_n 2, 1)) ∧ (decode cX12_loads 218 = .ok (.imul, 1)) ∧ (decode cX12_loads 219 = .ok (.iload 4, 2)) ∧ (decode cX12_loads 221 = .ok (.iadd, 1)) ∧ (decode cX12_loads 222 = .ok (.iload 6, 2)) ∧ (decode cX12_loads 224 = .ok (.iadd, 1)) ∧ (decode cX12_loads 225 = .ok (.iaload, 1)) ∧ (decode cX12_loads 226 = .ok (.iastore, 1)) ∧ (decode cX12_loads 227 = .ok (.iinc 6 1, 3)) := by decide +kernel
def dX12_loads_206 := edX12_loads_206.1
def dX12_loads_207 := edX12_loads_206.2.1
def dX12_loads_208 := edX12_loads_206.2.2.1
def dX12_loads_210 := edX12_loads_206.2.2.2.1
def dX12_loads_211 := edX12_loads_206.2.2.2.2.1
def dX12_loads_212 := edX12_loads_206.2.2.2.2.2.1
def dX12_loads_215 := edX12_loads_206.2.2.2.2.2.2.1
def dX12_loads_217 := edX12_loads_206.2.2.2.2.2.2.2.1
def dX12_loads_218 := edX12_loads_206.2.2.2.2.2.2.2.2.1
def dX12_loads_219 := edX12_loads_206.2.2.2.2.2.2.2.2.2.1
def dX12_loads_221 := edX12_loads_206.2.2.2.2.2.2.2.2.2.2.1
def dX12_loads_222 := edX12_loads_206.2.2.2.2.2.2.2.2.2.2.2.1
def dX12_loads_224 := edX12_loads_206.2.2.2.2.2.2.2.2.2.2.2.2.1
def dX12_loads_225 := edX12_loads_206.2.2.2.2.2.2.2.2.2.2.2.2.2.1
def dX12_loads_226 := edX12_loads_206.2.2.2.2.2.2.2.2.2.2.2.2.2.2.1
def dX12_loads_227 := edX12_loads_206.2.2.2.2.2.2.2.2.2.2.2.2.2.2.2
theorem edX12_loads_230 : (decode cX12_loads 230 = .ok (.goto (-37), 3)) ∧ (decode cX12_loads 233 = .ok (.aload_n 0, 1)) ∧ (decode cX12_loads 234 = .ok (.iload 5, 2)) ∧ (decode cX12_loads 236 = .ok (.invokevirtual 158, 3)) ∧ (decode cX12_loads 239 = .ok (.ireturn, 1)) := by decide +kernel
def dX12_loads_230 := edX12_loads_230.1
def dX12_loads_233 := edX12_loads_230.2.1
def dX12_loads_234 := edX12_loads_230.2.2.1
def dX12_loads_236 := edX12_loads_230.2.2.2.1
def dX12_loads_239 := edX12_loads_230.2.2.2.2
set_option maxRecDepth 100000 in
theorem ggX12_valve_X12_noCylinder : GoodIn wsX12_valve wsX12_noCylinder := goodIn_ca (b := wsX120) (goodIn_s _ [8, 9, 10, 6] [7, 11] (by decide +kernel) rfl (by decide +kernel)) (goodIn_sub (fun w h => List.mem_cons_of_mem _ (List.mem_append_right _ h)) gs_wsX120)
set_option maxRecDepth 20000 in
theorem gX12_valve_X12_noCylinder : GoodIn wsX12_valve (wsV RX12 189 RX12 yX12_noCylinder wsX12_noCylinder) := goodIn_app (goodIn_of _ (by decide +kernel)) ggX12_valve_X12_noCylinder
set_option maxRecDepth 100000 in
theorem ggX12_valve_X12_in : GoodIn wsX12_valve wsX12_in := goodIn_s _ [] [11] (by decide +kernel) rfl (by decide +kernel)
set_option maxRecDepth 20000 in
theorem gX12_valve_X12_in : GoodIn wsX12_valve (va_wsS RX12 150 yX12_in wsX12_in) := goodIn_app (goodIn_of _ (by decide +kernel)) ggX12_valve_X12_in
theorem edX12_valve_0 : (decode cX12_valve 0 = .ok (.aload_n 0, 1)) ∧ (decode cX12_valve 1 = .ok (.iload_n 1, 1)) ∧ (decode cX12_valve 2 = .ok (.invokevirtual 189, 3)) ∧ (decode cX12_valve 5 = .ok (.ifCond .eq 5, 3)) ∧ (decode cX12_valve 8 = .ok (.iconst (-1), 1)) ∧ (decode cX12_valve 9 = .ok (.ireturn, 1)) ∧ (decode cX12_valve 10 = .ok (.iload_n 2, 1)) ∧ (decode cX12_valve 11 = .ok (.i2l, 1)) ∧ (decode cX12_valve 12 = .ok (.lconst 0, 1)) ∧ (decode cX12_valve 13 = .ok (.ldc2_w 162, 3)) ∧ (decode cX12_valve 16 = .ok (.invokestatic 150, 3)) ∧ (decode cX12_valve 19 = .ok (.ifCond .ne 6, 3)) ∧ (decode cX12_valve 22 = .ok (.bipush (-2), 2)) ∧ (decode cX12_valve 24 = .ok (.ireturn, 1)) ∧ (decode cX12_valve 25 = .ok (.aload_n 0, 1)) ∧ (decode cX12_valve 26 = .ok (.getfield 49, 3)) := by decide +kernel
def dX12_valve_0 := edX12_valve_0.1
def dX12_valve_1 := edX12_valve_0.2.1
def dX12_valve_2 := edX12_valve_0.2.2.1
def dX12_valve_5 := edX12_valve_0.2.2.2.1
def dX12_valve_8 := edX12_valve_0.2.2.2.2.1
def dX12_valve_9 := edX12_valve_0.2.2.2.2.2.1
def dX12_valve_10 := edX12_valve_0.2.2.2.2.2.2.1
def dX12_valve_11 := edX12_valve_0.2.2.2.2.2.2.2.1
def dX12_valve_12 := edX12_valve_0.2.2.2.2.2.2.2.2.1
def dX12_valve_13 := edX12_valve_0.2.2.2.2.2.2.2.2.2.1
def dX12_valve_16 := edX12_valve_0.2.2.2.2.2.2.2.2.2.2.1
def dX12_valve_19 := edX12_valve_0.2.2.2.2.2.2.2.2.2.2.2.1
def dX12_valve_22 := edX12_valve_0.2.2.2.2.2.2.2.2.2.2.2.2.1
def dX12_valve_24 := edX12_valve_0.2.2.2.2.2.2.2.2.2.2.2.2.2.1
def dX12_valve_25 := edX12_valve_0.2.2.2.2.2.2.2.2.2.2.2.2.2.2.1
def dX12_valve_26 := edX12_valve_0.2.2.2.2.2.2.2.2.2.2.2.2.2.2.2
theorem edX12_valve_29 : (decode cX12_valve 29 = .ok (.iload_n 1, 1)) ∧ (decode cX12_valve 30 = .ok (.iaload, 1)) ∧ (decode cX12_valve 31 = .ok (.istore_n 3, 1)) ∧ (decode cX12_valve 32 = .ok (.aload_n 0, 1)) ∧ (decode cX12_valve 33 = .ok (.getfield 49, 3)) ∧ (decode cX12_valve 36 = .ok (.iload_n 1, 1)) ∧ (decode cX12_valve 37 = .ok (.iload_n 2, 1)) ∧ (decode cX12_valve 38 = .ok (.iastore, 1)) ∧ (decode cX12_valve 39 = .ok (.iload_n 3, 1)) ∧ (decode cX12_valve 40 = .ok (.ireturn, 1)) := by decide +kernel
def dX12_valve_29 := edX12_valve_29.1
def dX12_valve_30 := edX12_valve_29.2.1
def dX12_valve_31 := edX12_valve_29.2.2.1
def dX12_valve_32 := edX12_valve_29.2.2.2.1
def dX12_valve_33 := edX12_valve_29.2.2.2.2.1
def dX12_valve_36 := edX12_valve_29.2.2.2.2.2.1
def dX12_valve_37 := edX12_valve_29.2.2.2.2.2.2.1
def dX12_valve_38 := edX12_valve_29.2.2.2.2.2.2.2.1
def dX12_valve_39 := edX12_valve_29.2.2.2.2.2.2.2.2.1
def dX12_valve_40 := edX12_valve_29.2.2.2.2.2.2.2.2.2
theorem edX12_room_0 : (decode cX12_room 0 = .ok (.aload_n 0, 1)) ∧ (decode cX12_room 1 = .ok (.getfield 25, 3)) ∧ (decode cX12_room 4 = .ok (.iload_n 1, 1)) ∧ (decode cX12_room 5 = .ok (.iaload, 1)) ∧ (decode cX12_room 6 = .ok (.aload_n 0, 1)) ∧ (decode cX12_room 7 = .ok (.getfield 28, 3)) ∧ (decode cX12_room 10 = .ok (.iload_n 1, 1)) ∧ (decode cX12_room 11 = .ok (.iaload, 1)) ∧ (decode cX12_room 12 = .ok (.imul, 1)) ∧ (decode cX12_room 13 = .ok (.ireturn, 1)) := by decide +kernel
def dX12_room_0 := edX12_room_0.1
def dX12_room_1 := edX12_room_0.2.1
def dX12_room_4 := edX12_room_0.2.2.1
def dX12_room_5 := edX12_room_0.2.2.2.1
def dX12_room_6 := edX12_room_0.2.2.2.2.1
def dX12_room_7 := edX12_room_0.2.2.2.2.2.1
def dX12_room_10 := edX12_room_0.2.2.2.2.2.2.1
def dX12_room_11 := edX12_room_0.2.2.2.2.2.2.2.1
def dX12_room_12 := edX12_room_0.2.2.2.2.2.2.2.2.1
def dX12_room_13 := edX12_room_0.2.2.2.2.2.2.2.2.2
set_option maxRecDepth 100000 in
theorem ggX12_fill_X12_noCylinder : GoodIn wsX12_fill wsX12_noCylinder := goodIn_ca (b := wsX120) (goodIn_s _ [7, 8, 9, 5] [6, 10] (by decide +kernel) rfl (by decide +kernel)) (goodIn_sub (fun w h => List.mem_cons_of_mem _ (List.mem_append_right _ h)) gs_wsX120)
set_option maxRecDepth 20000 in
theorem gX12_fill_X12_noCylinder : GoodIn wsX12_fill (wsV RX12 189 RX12 yX12_noCylinder wsX12_noCylinder) := goodIn_app (goodIn_of _ (by decide +kernel)) ggX12_fill_X12_noCylinder
set_option maxRecDepth 100000 in
theorem ggX12_fill_X12_room : GoodIn wsX12_fill wsX12_room := goodIn_ca (b := wsX120) (goodIn_s _ [15, 16] [14] (by decide +kernel) rfl (by decide +kernel)) (goodIn_sub (fun w h => List.mem_cons_of_mem _ (List.mem_append_right _ h)) gs_wsX120)
set_option maxRecDepth 20000 in
theorem gX12_fill_X12_room : GoodIn wsX12_fill (wsV RX12 198 RX12 yX12_room wsX12_room) := goodIn_app (goodIn_of _ (by decide +kernel)) ggX12_fill_X12_room
set_option maxRecDepth 100000 in
theorem ggX12_fill_X12_in : GoodIn wsX12_fill wsX12_in := goodIn_s _ [] [10] (by decide +kernel) rfl (by decide +kernel)
set_option maxRecDepth 20000 in
theorem gX12_fill_X12_in : GoodIn wsX12_fill (va_wsS RX12 150 yX12_in wsX12_in) := goodIn_app (goodIn_of _ (by decide +kernel)) ggX12_fill_X12_in
theorem edX12_fill_0 : (decode cX12_fill 0 = .ok (.aload_n 0, 1)) ∧ (decode cX12_fill 1 = .ok (.iload_n 1, 1)) ∧ (decode cX12_fill 2 = .ok (.invokevirtual 189, 3)) ∧ (decode cX12_fill 5 = .ok (.ifCond .eq 5, 3)) ∧ (decode cX12_fill 8 = .ok (.iconst (-1), 1)) ∧ (decode cX12_fill 9 = .ok (.ireturn, 1)) ∧ (decode cX12_fill 10 = .ok (.iload_n 2, 1)) ∧ (decode cX12_fill 11 = .ok (.i2l, 1)) ∧ (decode cX12_fill 12 = .ok (.lconst 0, 1)) ∧ (decode cX12_fill 13 = .ok (.aload_n 0, 1)) ∧ (decode cX12_fill 14 = .ok (.iload_n 1, 1)) ∧ (decode cX12_fill 15 = .ok (.invokevirtual 198, 3)) ∧ (decode cX12_fill 18 = .ok (.i2l, 1)) ∧ (decode cX12_fill 19 = .ok (.invokestatic 150, 3)) ∧ (decode cX12_fill 22 = .ok (.ifCond .ne 6, 3)) ∧ (decode cX12_fill 25 = .ok (.bipush (-2), 2)) := by decide +kernel
def dX12_fill_0 := edX12_fill_0.1
def dX12_fill_1 := edX12_fill_0.2.1
def dX12_fill_2 := edX12_fill_0.2.2.1
def dX12_fill_5 := edX12_fill_0.2.2.2.1
def dX12_fill_8 := edX12_fill_0.2.2.2.2.1
def dX12_fill_9 := edX12_fill_0.2.2.2.2.2.1
def dX12_fill_10 := edX12_fill_0.2.2.2.2.2.2.1
def dX12_fill_11 := edX12_fill_0.2.2.2.2.2.2.2.1
def dX12_fill_12 := edX12_fill_0.2.2.2.2.2.2.2.2.1
def dX12_fill_13 := edX12_fill_0.2.2.2.2.2.2.2.2.2.1
def dX12_fill_14 := edX12_fill_0.2.2.2.2.2.2.2.2.2.2.1
def dX12_fill_15 := edX12_fill_0.2.2.2.2.2.2.2.2.2.2.2.1
def dX12_fill_18 := edX12_fill_0.2.2.2.2.2.2.2.2.2.2.2.2.1
def dX12_fill_19 := edX12_fill_0.2.2.2.2.2.2.2.2.2.2.2.2.2.1
def dX12_fill_22 := edX12_fill_0.2.2.2.2.2.2.2.2.2.2.2.2.2.2.1
def dX12_fill_25 := edX12_fill_0.2.2.2.2.2.2.2.2.2.2.2.2.2.2.2
theorem edX12_fill_27 : (decode cX12_fill 27 = .ok (.ireturn, 1)) ∧ (decode cX12_fill 28 = .ok (.aload_n 0, 1)) ∧ (decode cX12_fill 29 = .ok (.getfield 31, 3)) ∧ (decode cX12_fill 32 = .ok (.iload_n 1, 1)) ∧ (decode cX12_fill 33 = .ok (.iaload, 1)) ∧ (decode cX12_fill 34 = .ok (.istore_n 3, 1)) ∧ (decode cX12_fill 35 = .ok (.aload_n 0, 1)) ∧ (decode cX12_fill 36 = .ok (.getfield 31, 3)) ∧ (decode cX12_fill 39 = .ok (.iload_n 1, 1)) ∧ (decode cX12_fill 40 = .ok (.iload_n 2, 1)) ∧ (decode cX12_fill 41 = .ok (.iastore, 1)) ∧ (decode cX12_fill 42 = .ok (.iload_n 3, 1)) ∧ (decode cX12_fill 43 = .ok (.ireturn, 1)) := by decide +kernel
def dX12_fill_27 := edX12_fill_27.1
def dX12_fill_28 := edX12_fill_27.2.1
def dX12_fill_29 := edX12_fill_27.2.2.1
def dX12_fill_32 := edX12_fill_27.2.2.2.1
def dX12_fill_33 := edX12_fill_27.2.2.2.2.1
def dX12_fill_34 := edX12_fill_27.2.2.2.2.2.1
def dX12_fill_35 := edX12_fill_27.2.2.2.2.2.2.1
def dX12_fill_36 := edX12_fill_27.2.2.2.2.2.2.2.1
def dX12_fill_39 := edX12_fill_27.2.2.2.2.2.2.2.2.1
def dX12_fill_40 := edX12_fill_27.2.2.2.2.2.2.2.2.2.1
def dX12_fill_41 := edX12_fill_27.2.2.2.2.2.2.2.2.2.2.1
def dX12_fill_42 := edX12_fill_27.2.2.2.2.2.2.2.2.2.2.2.1
def dX12_fill_43 := edX12_fill_27.2.2.2.2.2.2.2.2.2.2.2.2
set_option maxRecDepth 100000 in
theorem ggX12_burst_X12_noCylinder : GoodIn wsX12_burst wsX12_noCylinder := goodIn_ca (b := wsX120) (goodIn_s _ [7, 8, 9, 5] [6, 10] (by decide +kernel) rfl (by decide +kernel)) (goodIn_sub (fun w h => List.mem_cons_of_mem _ (List.mem_append_right _ h)) gs_wsX120)
set_option maxRecDepth 20000 in
theorem gX12_burst_X12_noCylinder : GoodIn wsX12_burst (wsV RX12 189 RX12 yX12_noCylinder wsX12_noCylinder) := goodIn_app (goodIn_of _ (by decide +kernel)) ggX12_burst_X12_noCylinder
theorem edX12_burst_0 : (decode cX12_burst 0 = .ok (.aload_n 0, 1)) ∧ (decode cX12_burst 1 = .ok (.iload_n 1, 1)) ∧ (decode cX12_burst 2 = .ok (.invokevirtual 189, 3)) ∧ (decode cX12_burst 5 = .ok (.ifCond .eq 5, 3)) ∧ (decode cX12_burst 8 = .ok (.iconst (-1), 1)) ∧ (decode cX12_burst 9 = .ok (.ireturn, 1)) ∧ (decode cX12_burst 10 = .ok (.aload_n 0, 1)) ∧ (decode cX12_burst 11 = .ok (.getfield 52, 3)) ∧ (decode cX12_burst 14 = .ok (.iload_n 1, 1)) ∧ (decode cX12_burst 15 = .ok (.baload, 1)) ∧ (decode cX12_burst 16 = .ok (.iload_n 2, 1)) ∧ (decode cX12_burst 17 = .ok (.if_icmp .eq 7, 3)) ∧ (decode cX12_burst 20 = .ok (.iconst 1, 1)) ∧ (decode cX12_burst 21 = .ok (.goto 4, 3)) ∧ (decode cX12_burst 24 = .ok (.iconst 0, 1)) ∧ (decode cX12_burst 25 = .ok (.istore_n 3, 1)) := by decide +kernel
def dX12_burst_0 := edX12_burst_0.1
def dX12_burst_1 := edX12_burst_0.2.1
def dX12_burst_2 := edX12_burst_0.2.2.1
def dX12_burst_5 := edX12_burst_0.2.2.2.1
def dX12_burst_8 := edX12_burst_0.2.2.2.2.1
def dX12_burst_9 := edX12_burst_0.2.2.2.2.2.1
def dX12_burst_10 := edX12_burst_0.2.2.2.2.2.2.1
def dX12_burst_11 := edX12_burst_0.2.2.2.2.2.2.2.1
def dX12_burst_14 := edX12_burst_0.2.2.2.2.2.2.2.2.1
def dX12_burst_15 := edX12_burst_0.2.2.2.2.2.2.2.2.2.1
def dX12_burst_16 := edX12_burst_0.2.2.2.2.2.2.2.2.2.2.1
def dX12_burst_17 := edX12_burst_0.2.2.2.2.2.2.2.2.2.2.2.1
def dX12_burst_20 := edX12_burst_0.2.2.2.2.2.2.2.2.2.2.2.2.1
def dX12_burst_21 := edX12_burst_0.2.2.2.2.2.2.2.2.2.2.2.2.2.1
def dX12_burst_24 := edX12_burst_0.2.2.2.2.2.2.2.2.2.2.2.2.2.2.1
def dX12_burst_25 := edX12_burst_0.2.2.2.2.2.2.2.2.2.2.2.2.2.2.2
theorem edX12_burst_26 : (decode cX12_burst 26 = .ok (.aload_n 0, 1)) ∧ (decode cX12_burst 27 = .ok (.getfield 52, 3)) ∧ (decode cX12_burst 30 = .ok (.iload_n 1, 1)) ∧ (decode cX12_burst 31 = .ok (.iload_n 2, 1)) ∧ (decode cX12_burst 32 = .ok (.bastore, 1)) ∧ (decode cX12_burst 33 = .ok (.iload_n 3, 1)) ∧ (decode cX12_burst 34 = .ok (.ifCond .eq 7, 3)) ∧ (decode cX12_burst 37 = .ok (.iconst 1, 1)) ∧ (decode cX12_burst 38 = .ok (.goto 4, 3)) ∧ (decode cX12_burst 41 = .ok (.iconst 0, 1)) ∧ (decode cX12_burst 42 = .ok (.ireturn, 1)) := by decide +kernel
def dX12_burst_26 := edX12_burst_26.1
def dX12_burst_27 := edX12_burst_26.2.1
def dX12_burst_30 := edX12_burst_26.2.2.1
def dX12_burst_31 := edX12_burst_26.2.2.2.1
def dX12_burst_32 := edX12_burst_26.2.2.2.2.1
def dX12_burst_33 := edX12_burst_26.2.2.2.2.2.1
def dX12_burst_34 := edX12_burst_26.2.2.2.2.2.2.1
def dX12_burst_37 := edX12_burst_26.2.2.2.2.2.2.2.1
def dX12_burst_38 := edX12_burst_26.2.2.2.2.2.2.2.2.1
def dX12_burst_41 := edX12_burst_26.2.2.2.2.2.2.2.2.2.1
def dX12_burst_42 := edX12_burst_26.2.2.2.2.2.2.2.2.2.2
set_option maxRecDepth 100000 in
theorem ggX12_store_X12_in : GoodIn wsX12_store wsX12_in := goodIn_s _ [] [11] (by decide +kernel) rfl (by decide +kernel)
set_option maxRecDepth 20000 in
theorem gX12_store_X12_in : GoodIn wsX12_store (va_wsS RX12 150 yX12_in wsX12_in) := goodIn_app (goodIn_of _ (by decide +kernel)) ggX12_store_X12_in
theorem edX12_store_0 : (decode cX12_store 0 = .ok (.iload_n 1, 1)) ∧ (decode cX12_store 1 = .ok (.i2l, 1)) ∧ (decode cX12_store 2 = .ok (.lconst 0, 1)) ∧ (decode cX12_store 3 = .ok (.ldc2_w 201, 3)) ∧ (decode cX12_store 6 = .ok (.invokestatic 150, 3)) ∧ (decode cX12_store 9 = .ok (.ifCond .eq 27, 3)) ∧ (decode cX12_store 12 = .ok (.iload_n 2, 1)) ∧ (decode cX12_store 13 = .ok (.i2l, 1)) ∧ (decode cX12_store 14 = .ok (.lconst 0, 1)) ∧ (decode cX12_store 15 = .ok (.ldc2_w 182, 3)) ∧ (decode cX12_store 18 = .ok (.invokestatic 150, 3)) ∧ (decode cX12_store 21 = .ok (.ifCond .eq 15, 3)) ∧ (decode cX12_store 24 = .ok (.iload_n 3, 1)) ∧ (decode cX12_store 25 = .ok (.i2l, 1)) ∧ (decode cX12_store 26 = .ok (.lconst 1, 1)) ∧ (decode cX12_store 27 = .ok (.ldc2_w 187, 3)) := by decide +kernel
def dX12_store_0 := edX12_store_0.1
def dX12_store_1 := edX12_store_0.2.1
def dX12_store_2 := edX12_store_0.2.2.1
def dX12_store_3 := edX12_store_0.2.2.2.1
def dX12_store_6 := edX12_store_0.2.2.2.2.1
def dX12_store_9 := edX12_store_0.2.2.2.2.2.1
def dX12_store_12 := edX12_store_0.2.2.2.2.2.2.1
def dX12_store_13 := edX12_store_0.2.2.2.2.2.2.2.1
def dX12_store_14 := edX12_store_0.2.2.2.2.2.2.2.2.1
def dX12_store_15 := edX12_store_0.2.2.2.2.2.2.2.2.2.1
def dX12_store_18 := edX12_store_0.2.2.2.2.2.2.2.2.2.2.1
def dX12_store_21 := edX12_store_0.2.2.2.2.2.2.2.2.2.2.2.1
def dX12_store_24 := edX12_store_0.2.2.2.2.2.2.2.2.2.2.2.2.1
def dX12_store_25 := edX12_store_0.2.2.2.2.2.2.2.2.2.2.2.2.2.1
def dX12_store_26 := edX12_store_0.2.2.2.2.2.2.2.2.2.2.2.2.2.2.1
def dX12_store_27 := edX12_store_0.2.2.2.2.2.2.2.2.2.2.2.2.2.2.2
theorem edX12_store_30 : (decode cX12_store 30 = .ok (.invokestatic 150, 3)) ∧ (decode cX12_store 33 = .ok (.ifCond .ne 6, 3)) ∧ (decode cX12_store 36 = .ok (.bipush (-2), 2)) ∧ (decode cX12_store 38 = .ok (.ireturn, 1)) ∧ (decode cX12_store 39 = .ok (.aload_n 0, 1)) ∧ (decode cX12_store 40 = .ok (.getfield 203, 3)) ∧ (decode cX12_store 43 = .ok (.iload_n 1, 1)) ∧ (decode cX12_store 44 = .ok (.if_icmp .le 6, 3)) ∧ (decode cX12_store 47 = .ok (.bipush (-3), 2)) ∧ (decode cX12_store 49 = .ok (.ireturn, 1)) ∧ (decode cX12_store 50 = .ok (.aload_n 0, 1)) ∧ (decode cX12_store 51 = .ok (.iload_n 1, 1)) ∧ (decode cX12_store 52 = .ok (.putfield 206, 3)) ∧ (decode cX12_store 55 = .ok (.aload_n 0, 1)) ∧ (decode cX12_store 56 = .ok (.iload_n 2, 1)) ∧ (decode cX12_store 57 = .ok (.putfield 209, 3)) := by decide +kernel
def dX12_store_30 := edX12_store_30.1
def dX12_store_33 := edX12_store_30.2.1
def dX12_store_36 := edX12_store_30.2.2.1
def dX12_store_38 := edX12_store_30.2.2.2.1
def dX12_store_39 := edX12_store_30.2.2.2.2.1
def dX12_store_40 := edX12_store_30.2.2.2.2.2.1
def dX12_store_43 := edX12_store_30.2.2.2.2.2.2.1
def dX12_store_44 := edX12_store_30.2.2.2.2.2.2.2.1
def dX12_store_47 := edX12_store_30.2.2.2.2.2.2.2.2.1
def dX12_store_49 := edX12_store_30.2.2.2.2.2.2.2.2.2.1
def dX12_store_50 := edX12_store_30.2.2.2.2.2.2.2.2.2.2.1
def dX12_store_51 := edX12_store_30.2.2.2.2.2.2.2.2.2.2.2.1
def dX12_store_52 := edX12_store_30.2.2.2.2.2.2.2.2.2.2.2.2.1
def dX12_store_55 := edX12_store_30.2.2.2.2.2.2.2.2.2.2.2.2.2.1
def dX12_store_56 := edX12_store_30.2.2.2.2.2.2.2.2.2.2.2.2.2.2.1
def dX12_store_57 := edX12_store_30.2.2.2.2.2.2.2.2.2.2.2.2.2.2.2
theorem edX12_store_60 : (decode cX12_store 60 = .ok (.aload_n 0, 1)) ∧ (decode cX12_store 61 = .ok (.iload_n 3, 1)) ∧ (decode cX12_store 62 = .ok (.putfield 133, 3)) ∧ (decode cX12_store 65 = .ok (.iconst 1, 1)) ∧ (decode cX12_store 66 = .ok (.ireturn, 1)) := by decide +kernel
def dX12_store_60 := edX12_store_60.1
def dX12_store_61 := edX12_store_60.2.1
def dX12_store_62 := edX12_store_60.2.2.1
def dX12_store_65 := edX12_store_60.2.2.2.1
def dX12_store_66 := edX12_store_60.2.2.2.2
set_option maxRecDepth 100000 in
theorem ggX12_loadOf_X12_room : GoodIn wsX12_loadOf wsX12_room := goodIn_ca (b := wsX120) (goodIn_s _ [9, 10] [8] (by decide +kernel) rfl (by decide +kernel)) (goodIn_sub (fun w h => List.mem_cons_of_mem _ (List.mem_append_right _ h)) gs_wsX120)
set_option maxRecDepth 20000 in
theorem gX12_loadOf_X12_room : GoodIn wsX12_loadOf (wsV RX12 198 RX12 yX12_room wsX12_room) := goodIn_app (goodIn_of _ (by decide +kernel)) ggX12_loadOf_X12_room
set_option maxRecDepth 100000 in
theorem ggX12_loadOf_X12_lesser : GoodIn wsX12_loadOf wsX12_lesser := goodIn_s _ [] [13] (by decide +kernel) rfl (by decide +kernel)
set_option maxRecDepth 20000 in
theorem gX12_loadOf_X12_lesser : GoodIn wsX12_loadOf (va_wsS RX12 212 yX12_lesser wsX12_lesser) := goodIn_app (goodIn_of _ (by decide +kernel)) ggX12_loadOf_X12_lesser
theorem edX12_loadOf_0 : (decode cX12_loadOf 0 = .ok (.aload_n 0, 1)) ∧ (decode cX12_loadOf 1 = .ok (.getfield 31, 3)) ∧ (decode cX12_loadOf 4 = .ok (.iload_n 1, 1)) ∧ (decode cX12_loadOf 5 = .ok (.iaload, 1)) ∧ (decode cX12_loadOf 6 = .ok (.aload_n 0, 1)) ∧ (decode cX12_loadOf 7 = .ok (.getfield 34, 3)) ∧ (decode cX12_loadOf 10 = .ok (.iload_n 1, 1)) ∧ (decode cX12_loadOf 11 = .ok (.iaload, 1)) ∧ (decode cX12_loadOf 12 = .ok (.imul, 1)) ∧ (decode cX12_loadOf 13 = .ok (.aload_n 0, 1)) ∧ (decode cX12_loadOf 14 = .ok (.iload_n 1, 1)) ∧ (decode cX12_loadOf 15 = .ok (.invokevirtual 198, 3)) ∧ (decode cX12_loadOf 18 = .ok (.idiv, 1)) ∧ (decode cX12_loadOf 19 = .ok (.istore_n 2, 1)) ∧ (decode cX12_loadOf 20 = .ok (.aload_n 0, 1)) ∧ (decode cX12_loadOf 21 = .ok (.getfield 37, 3)) := by decide +kernel
def dX12_loadOf_0 := edX12_loadOf_0.1
def dX12_loadOf_1 := edX12_loadOf_0.2.1
def dX12_loadOf_4 := edX12_loadOf_0.2.2.1
def dX12_loadOf_5 := edX12_loadOf_0.2.2.2.1
def dX12_loadOf_6 := edX12_loadOf_0.2.2.2.2.1
def dX12_loadOf_7 := edX12_loadOf_0.2.2.2.2.2.1
def dX12_loadOf_10 := edX12_loadOf_0.2.2.2.2.2.2.1
def dX12_loadOf_11 := edX12_loadOf_0.2.2.2.2.2.2.2.1
def dX12_loadOf_12 := edX12_loadOf_0.2.2.2.2.2.2.2.2.1
def dX12_loadOf_13 := edX12_loadOf_0.2.2.2.2.2.2.2.2.2.1
def dX12_loadOf_14 := edX12_loadOf_0.2.2.2.2.2.2.2.2.2.2.1
def dX12_loadOf_15 := edX12_loadOf_0.2.2.2.2.2.2.2.2.2.2.2.1
def dX12_loadOf_18 := edX12_loadOf_0.2.2.2.2.2.2.2.2.2.2.2.2.1
def dX12_loadOf_19 := edX12_loadOf_0.2.2.2.2.2.2.2.2.2.2.2.2.2.1
def dX12_loadOf_20 := edX12_loadOf_0.2.2.2.2.2.2.2.2.2.2.2.2.2.2.1
def dX12_loadOf_21 := edX12_loadOf_0.2.2.2.2.2.2.2.2.2.2.2.2.2.2.2
theorem edX12_loadOf_24 : (decode cX12_loadOf 24 = .ok (.bipush 10, 2)) ∧ (decode cX12_loadOf 26 = .ok (.iload_n 1, 1)) ∧ (decode cX12_loadOf 27 = .ok (.imul, 1)) ∧ (decode cX12_loadOf 28 = .ok (.iload_n 2, 1)) ∧ (decode cX12_loadOf 29 = .ok (.aload_n 0, 1)) ∧ (decode cX12_loadOf 30 = .ok (.getfield 34, 3)) ∧ (decode cX12_loadOf 33 = .ok (.iload_n 1, 1)) ∧ (decode cX12_loadOf 34 = .ok (.iaload, 1)) ∧ (decode cX12_loadOf 35 = .ok (.iconst 1, 1)) ∧ (decode cX12_loadOf 36 = .ok (.isub, 1)) ∧ (decode cX12_loadOf 37 = .ok (.invokestatic 212, 3)) ∧ (decode cX12_loadOf 40 = .ok (.iadd, 1)) ∧ (decode cX12_loadOf 41 = .ok (.iaload, 1)) ∧ (decode cX12_loadOf 42 = .ok (.ireturn, 1)) := by decide +kernel
def dX12_loadOf_24 := edX12_loadOf_24.1
def dX12_loadOf_26 := edX12_loadOf_24.2.1
def dX12_loadOf_27 := edX12_loadOf_24.2.2.1
def dX12_loadOf_28 := edX12_loadOf_24.2.2.2.1
def dX12_loadOf_29 := edX12_loadOf_24.2.2.2.2.1
def dX12_loadOf_30 := edX12_loadOf_24.2.2.2.2.2.1
def dX12_loadOf_33 := edX12_loadOf_24.2.2.2.2.2.2.1
def dX12_loadOf_34 := edX12_loadOf_24.2.2.2.2.2.2.2.1
def dX12_loadOf_35 := edX12_loadOf_24.2.2.2.2.2.2.2.2.1
def dX12_loadOf_36 := edX12_loadOf_24.2.2.2.2.2.2.2.2.2.1
def dX12_loadOf_37 := edX12_loadOf_24.2.2.2.2.2.2.2.2.2.2.1
def dX12_loadOf_40 := edX12_loadOf_24.2.2.2.2.2.2.2.2.2.2.2.1
def dX12_loadOf_41 := edX12_loadOf_24.2.2.2.2.2.2.2.2.2.2.2.2.1
def dX12_loadOf_42 := edX12_loadOf_24.2.2.2.2.2.2.2.2.2.2.2.2.2
set_option maxRecDepth 100000 in
theorem ggX12_needOf_X12_loadOf : GoodIn wsX12_needOf wsX12_loadOf := goodIn_ca (b := wsX120) (goodIn_s _ [9, 10, 11, 12, 13, 14, 7, 1, 16, 17, 18] [8, 15, 19] (by decide +kernel) rfl (by decide +kernel)) (goodIn_sub (fun w h => List.mem_cons_of_mem _ (List.mem_append_right _ h)) gs_wsX120)
set_option maxRecDepth 20000 in
theorem gX12_needOf_X12_loadOf : GoodIn wsX12_needOf (wsV RX12 215 RX12 yX12_loadOf wsX12_loadOf) := goodIn_app (goodIn_of _ (by decide +kernel)) ggX12_needOf_X12_loadOf
theorem edX12_needOf_0 : (decode cX12_needOf 0 = .ok (.aload_n 0, 1)) ∧ (decode cX12_needOf 1 = .ok (.iload_n 1, 1)) ∧ (decode cX12_needOf 2 = .ok (.invokevirtual 215, 3)) ∧ (decode cX12_needOf 5 = .ok (.aload_n 0, 1)) ∧ (decode cX12_needOf 6 = .ok (.getfield 25, 3)) ∧ (decode cX12_needOf 9 = .ok (.iload_n 1, 1)) ∧ (decode cX12_needOf 10 = .ok (.iaload, 1)) ∧ (decode cX12_needOf 11 = .ok (.iadd, 1)) ∧ (decode cX12_needOf 12 = .ok (.iconst 1, 1)) ∧ (decode cX12_needOf 13 = .ok (.isub, 1)) ∧ (decode cX12_needOf 14 = .ok (.aload_n 0, 1)) ∧ (decode cX12_needOf 15 = .ok (.getfield 25, 3)) ∧ (decode cX12_needOf 18 = .ok (.iload_n 1, 1)) ∧ (decode cX12_needOf 19 = .ok (.iaload, 1)) ∧ (decode cX12_needOf 20 = .ok (.idiv, 1)) ∧ (decode cX12_needOf 21 = .ok (.istore_n 2, 1)) := by decide +kernel
def dX12_needOf_0 := edX12_needOf_0.1
def dX12_needOf_1 := edX12_needOf_0.2.1
def dX12_needOf_2 := edX12_needOf_0.2.2.1
def dX12_needOf_5 := edX12_needOf_0.2.2.2.1
def dX12_needOf_6 := edX12_needOf_0.2.2.2.2.1
def dX12_needOf_9 := edX12_needOf_0.2.2.2.2.2.1
def dX12_needOf_10 := edX12_needOf_0.2.2.2.2.2.2.1
def dX12_needOf_11 := edX12_needOf_0.2.2.2.2.2.2.2.1
def dX12_needOf_12 := edX12_needOf_0.2.2.2.2.2.2.2.2.1
def dX12_needOf_13 := edX12_needOf_0.2.2.2.2.2.2.2.2.2.1
def dX12_needOf_14 := edX12_needOf_0.2.2.2.2.2.2.2.2.2.2.1
def dX12_needOf_15 := edX12_needOf_0.2.2.2.2.2.2.2.2.2.2.2.1
def dX12_needOf_18 := edX12_needOf_0.2.2.2.2.2.2.2.2.2.2.2.2.1
def dX12_needOf_19 := edX12_needOf_0.2.2.2.2.2.2.2.2.2.2.2.2.2.1
def dX12_needOf_20 := edX12_needOf_0.2.2.2.2.2.2.2.2.2.2.2.2.2.2.1
def dX12_needOf_21 := edX12_needOf_0.2.2.2.2.2.2.2.2.2.2.2.2.2.2.2
theorem edX12_needOf_22 : (decode cX12_needOf 22 = .ok (.aload_n 0, 1)) ∧ (decode cX12_needOf 23 = .ok (.getfield 22, 3)) ∧ (decode cX12_needOf 26 = .ok (.iload_n 1, 1)) ∧ (decode cX12_needOf 27 = .ok (.iaload, 1)) ∧ (decode cX12_needOf 28 = .ok (.iconst 2, 1)) ∧ (decode cX12_needOf 29 = .ok (.if_icmp .ne 11, 3)) ∧ (decode cX12_needOf 32 = .ok (.iload_n 2, 1)) ∧ (decode cX12_needOf 33 = .ok (.iconst 1, 1)) ∧ (decode cX12_needOf 34 = .ok (.iadd, 1)) ∧ (decode cX12_needOf 35 = .ok (.iconst 2, 1)) ∧ (decode cX12_needOf 36 = .ok (.idiv, 1)) ∧ (decode cX12_needOf 37 = .ok (.goto 4, 3)) ∧ (decode cX12_needOf 40 = .ok (.iload_n 2, 1)) ∧ (decode cX12_needOf 41 = .ok (.aload_n 0, 1)) ∧ (decode cX12_needOf 42 = .ok (.getfield 40, 3)) ∧ (decode cX12_needOf 45 = .ok (.iload_n 1, 1)) := by decide +kernel
def dX12_needOf_22 := edX12_needOf_22.1
def dX12_needOf_23 := edX12_needOf_22.2.1
def dX12_needOf_26 := edX12_needOf_22.2.2.1
def dX12_needOf_27 := edX12_needOf_22.2.2.2.1
def dX12_needOf_28 := edX12_needOf_22.2.2.2.2.1
def dX12_needOf_29 := edX12_needOf_22.2.2.2.2.2.1
def dX12_needOf_32 := edX12_needOf_22.2.2.2.2.2.2.1
def dX12_needOf_33 := edX12_needOf_22.2.2.2.2.2.2.2.1
def dX12_needOf_34 := edX12_needOf_22.2.2.2.2.2.2.2.2.1
def dX12_needOf_35 := edX12_needOf_22.2.2.2.2.2.2.2.2.2.1
def dX12_needOf_36 := edX12_needOf_22.2.2.2.2.2.2.2.2.2.2.1
def dX12_needOf_37 := edX12_needOf_22.2.2.2.2.2.2.2.2.2.2.2.1
def dX12_needOf_40 := edX12_needOf_22.2.2.2.2.2.2.2.2.2.2.2.2.1
def dX12_needOf_41 := edX12_needOf_22.2.2.2.2.2.2.2.2.2.2.2.2.2.1
def dX12_needOf_42 := edX12_needOf_22.2.2.2.2.2.2.2.2.2.2.2.2.2.2.1
def dX12_needOf_45 := edX12_needOf_22.2.2.2.2.2.2.2.2.2.2.2.2.2.2.2
theorem edX12_needOf_46 : (decode cX12_needOf 46 = .ok (.iaload, 1)) ∧ (decode cX12_needOf 47 = .ok (.iadd, 1)) ∧ (decode cX12_needOf 48 = .ok (.ireturn, 1)) := by decide +kernel
def dX12_needOf_46 := edX12_needOf_46.1
def dX12_needOf_47 := edX12_needOf_46.2.1
def dX12_needOf_48 := edX12_needOf_46.2.2
theorem edX12_storePressure_0 : (decode cX12_storePressure 0 = .ok (.aload_n 0, 1)) ∧ (decode cX12_storePressure 1 = .ok (.getfield 209, 3)) ∧ (decode cX12_storePressure 4 = .ok (.aload_n 0, 1)) ∧ (decode cX12_storePressure 5 = .ok (.getfield 203, 3)) ∧ (decode cX12_storePressure 8 = .ok (.aload_n 0, 1)) ∧ (decode cX12_storePressure 9 = .ok (.getfield 133, 3)) ∧ (decode cX12_storePressure 12 = .ok (.idiv, 1)) ∧ (decode cX12_storePressure 13 = .ok (.iadd, 1)) ∧ (decode cX12_storePressure 14 = .ok (.ireturn, 1)) := by decide +kernel
def dX12_storePressure_0 := edX12_storePressure_0.1
def dX12_storePressure_1 := edX12_storePressure_0.2.1
def dX12_storePressure_4 := edX12_storePressure_0.2.2.1
def dX12_storePressure_5 := edX12_storePressure_0.2.2.2.1
def dX12_storePressure_8 := edX12_storePressure_0.2.2.2.2.1
def dX12_storePressure_9 := edX12_storePressure_0.2.2.2.2.2.1
def dX12_storePressure_12 := edX12_storePressure_0.2.2.2.2.2.2.1
def dX12_storePressure_13 := edX12_storePressure_0.2.2.2.2.2.2.2.1
def dX12_storePressure_14 := edX12_storePressure_0.2.2.2.2.2.2.2.2
set_option maxRecDepth 100000 in
theorem ggX12_about_X12_noCylinder : GoodIn wsX12_about wsX12_noCylinder := goodIn_ca (b := wsX120) (goodIn_s _ [14, 15, 16, 12] [13, 17] (by decide +kernel) rfl (by decide +kernel)) (goodIn_sub (fun w h => List.mem_cons_of_mem _ (List.mem_append_right _ h)) gs_wsX120)
set_option maxRecDepth 20000 in
theorem gX12_about_X12_noCylinder : GoodIn wsX12_about (wsV RX12 189 RX12 yX12_noCylinder wsX12_noCylinder) := goodIn_app (goodIn_of _ (by decide +kernel)) ggX12_about_X12_noCylinder
set_option maxRecDepth 100000 in
theorem ggX12_about_X12_loadOf : GoodIn wsX12_about wsX12_loadOf := goodIn_ca (b := wsX120) (goodIn_s _ [4, 6, 22, 23, 24, 25, 12, 2, 3, 27, 28] [21, 26, 29] (by decide +kernel) rfl (by decide +kernel)) (goodIn_sub (fun w h => List.mem_cons_of_mem _ (List.mem_append_right _ h)) gs_wsX120)
set_option maxRecDepth 20000 in
theorem gX12_about_X12_loadOf : GoodIn wsX12_about (wsV RX12 215 RX12 yX12_loadOf wsX12_loadOf) := goodIn_app (goodIn_of _ (by decide +kernel)) ggX12_about_X12_loadOf
set_option maxRecDepth 100000 in
theorem ggX12_about_X12_needOf : GoodIn wsX12_about wsX12_needOf := goodIn_ca (b := wsX120) (goodIn_s _ [2, 1, 34, 18, 19, 20, 12, 4, 6, 22, 23, 24, 25, 3, 27, 28] [33, 21, 26, 29] (by decide +kernel) rfl (by decide +kernel)) (goodIn_sub (fun w h => List.mem_cons_of_mem _ (List.mem_append_right _ h)) gs_wsX120)
set_option maxRecDepth 20000 in
theorem gX12_about_X12_needOf : GoodIn wsX12_about (wsV RX12 218 RX12 yX12_needOf wsX12_needOf) := goodIn_app (goodIn_of _ (by decide +kernel)) ggX12_about_X12_needOf
theorem edX12_about_0 : (decode cX12_about 0 = .ok (.aload_n 0, 1)) ∧ (decode cX12_about 1 = .ok (.iload_n 1, 1)) ∧ (decode cX12_about 2 = .ok (.invokevirtual 189, 3)) ∧ (decode cX12_about 5 = .ok (.ifCond .eq 5, 3)) ∧ (decode cX12_about 8 = .ok (.iconst (-1), 1)) ∧ (decode cX12_about 9 = .ok (.ireturn, 1)) ∧ (decode cX12_about 10 = .ok (.iload_n 2, 1)) ∧ (decode cX12_about 11 = .ok (.tableswitch 129 0 9 #[53, 60, 67, 74, 81, 87, 93, 100, 107, 122], 53)) ∧ (decode cX12_about 64 = .ok (.aload_n 0, 1)) ∧ (decode cX12_about 65 = .ok (.getfield 22, 3)) ∧ (decode cX12_about 68 = .ok (.iload_n 1, 1)) ∧ (decode cX12_about 69 = .ok (.iaload, 1)) ∧ (decode cX12_about 70 = .ok (.ireturn, 1)) ∧ (decode cX12_about 71 = .ok (.aload_n 0, 1)) ∧ (decode cX12_about 72 = .ok (.getfield 25, 3)) ∧ (decode cX12_about 75 = .ok (.iload_n 1, 1)) := by decide +kernel
def dX12_about_0 := edX12_about_0.1
def dX12_about_1 := edX12_about_0.2.1
def dX12_about_2 := edX12_about_0.2.2.1
def dX12_about_5 := edX12_about_0.2.2.2.1
def dX12_about_8 := edX12_about_0.2.2.2.2.1
def dX12_about_9 := edX12_about_0.2.2.2.2.2.1
def dX12_about_10 := edX12_about_0.2.2.2.2.2.2.1
def dX12_about_11 := edX12_about_0.2.2.2.2.2.2.2.1
def dX12_about_64 := edX12_about_0.2.2.2.2.2.2.2.2.1
def dX12_about_65 := edX12_about_0.2.2.2.2.2.2.2.2.2.1
def dX12_about_68 := edX12_about_0.2.2.2.2.2.2.2.2.2.2.1
def dX12_about_69 := edX12_about_0.2.2.2.2.2.2.2.2.2.2.2.1
def dX12_about_70 := edX12_about_0.2.2.2.2.2.2.2.2.2.2.2.2.1
def dX12_about_71 := edX12_about_0.2.2.2.2.2.2.2.2.2.2.2.2.2.1
def dX12_about_72 := edX12_about_0.2.2.2.2.2.2.2.2.2.2.2.2.2.2.1
def dX12_about_75 := edX12_about_0.2.2.2.2.2.2.2.2.2.2.2.2.2.2.2
theorem edX12_about_76 : (decode cX12_about 76 = .ok (.iaload, 1)) ∧ (decode cX12_about 77 = .ok (.ireturn, 1)) ∧ (decode cX12_about 78 = .ok (.aload_n 0, 1)) ∧ (decode cX12_about 79 = .ok (.getfield 28, 3)) ∧ (decode cX12_about 82 = .ok (.iload_n 1, 1)) ∧ (decode cX12_about 83 = .ok (.iaload, 1)) ∧ (decode cX12_about 84 = .ok (.ireturn, 1)) ∧ (decode cX12_about 85 = .ok (.aload_n 0, 1)) ∧ (decode cX12_about 86 = .ok (.getfield 31, 3)) ∧ (decode cX12_about 89 = .ok (.iload_n 1, 1)) ∧ (decode cX12_about 90 = .ok (.iaload, 1)) ∧ (decode cX12_about 91 = .ok (.ireturn, 1)) ∧ (decode cX12_about 92 = .ok (.aload_n 0, 1)) ∧ (decode cX12_about 93 = .ok (.iload_n 1, 1)) ∧ (decode cX12_about 94 = .ok (.invokevirtual 215, 3)) ∧ (decode cX12_about 97 = .ok (.ireturn, 1)) := by decide +kernel
def dX12_about_76 := edX12_about_76.1
def dX12_about_77 := edX12_about_76.2.1
def dX12_about_78 := edX12_about_76.2.2.1
def dX12_about_79 := edX12_about_76.2.2.2.1
def dX12_about_82 := edX12_about_76.2.2.2.2.1
def dX12_about_83 := edX12_about_76.2.2.2.2.2.1
def dX12_about_84 := edX12_about_76.2.2.2.2.2.2.1
def dX12_about_85 := edX12_about_76.2.2.2.2.2.2.2.1
def dX12_about_86 := edX12_about_76.2.2.2.2.2.2.2.2.1
def dX12_about_89 := edX12_about_76.2.2.2.2.2.2.2.2.2.1
def dX12_about_90 := edX12_about_76.2.2.2.2.2.2.2.2.2.2.1
def dX12_about_91 := edX12_about_76.2.2.2.2.2.2.2.2.2.2.2.1
def dX12_about_92 := edX12_about_76.2.2.2.2.2.2.2.2.2.2.2.2.1
def dX12_about_93 := edX12_about_76.2.2.2.2.2.2.2.2.2.2.2.2.2.1
def dX12_about_94 := edX12_about_76.2.2.2.2.2.2.2.2.2.2.2.2.2.2.1
def dX12_about_97 := edX12_about_76.2.2.2.2.2.2.2.2.2.2.2.2.2.2.2
theorem edX12_about_98 : (decode cX12_about 98 = .ok (.aload_n 0, 1)) ∧ (decode cX12_about 99 = .ok (.iload_n 1, 1)) ∧ (decode cX12_about 100 = .ok (.invokevirtual 218, 3)) ∧ (decode cX12_about 103 = .ok (.ireturn, 1)) ∧ (decode cX12_about 104 = .ok (.aload_n 0, 1)) ∧ (decode cX12_about 105 = .ok (.getfield 49, 3)) ∧ (decode cX12_about 108 = .ok (.iload_n 1, 1)) ∧ (decode cX12_about 109 = .ok (.iaload, 1)) ∧ (decode cX12_about 110 = .ok (.ireturn, 1)) ∧ (decode cX12_about 111 = .ok (.aload_n 0, 1)) ∧ (decode cX12_about 112 = .ok (.getfield 34, 3)) ∧ (decode cX12_about 115 = .ok (.iload_n 1, 1)) ∧ (decode cX12_about 116 = .ok (.iaload, 1)) ∧ (decode cX12_about 117 = .ok (.ireturn, 1)) ∧ (decode cX12_about 118 = .ok (.aload_n 0, 1)) ∧ (decode cX12_about 119 = .ok (.getfield 52, 3)) := by decide +kernel
def dX12_about_98 := edX12_about_98.1
def dX12_about_99 := edX12_about_98.2.1
def dX12_about_100 := edX12_about_98.2.2.1
def dX12_about_103 := edX12_about_98.2.2.2.1
def dX12_about_104 := edX12_about_98.2.2.2.2.1
def dX12_about_105 := edX12_about_98.2.2.2.2.2.1
def dX12_about_108 := edX12_about_98.2.2.2.2.2.2.1
def dX12_about_109 := edX12_about_98.2.2.2.2.2.2.2.1
def dX12_about_110 := edX12_about_98.2.2.2.2.2.2.2.2.1
def dX12_about_111 := edX12_about_98.2.2.2.2.2.2.2.2.2.1
def dX12_about_112 := edX12_about_98.2.2.2.2.2.2.2.2.2.2.1
def dX12_about_115 := edX12_about_98.2.2.2.2.2.2.2.2.2.2.2.1
def dX12_about_116 := edX12_about_98.2.2.2.2.2.2.2.2.2.2.2.2.1
def dX12_about_117 := edX12_about_98.2.2.2.2.2.2.2.2.2.2.2.2.2.1
def dX12_about_118 := edX12_about_98.2.2.2.2.2.2.2.2.2.2.2.2.2.2.1
def dX12_about_119 := edX12_about_98.2.2.2.2.2.2.2.2.2.2.2.2.2.2.2
theorem edX12_about_122 : (decode cX12_about 122 = .ok (.iload_n 1, 1)) ∧ (decode cX12_about 123 = .ok (.baload, 1)) ∧ (decode cX12_about 124 = .ok (.ifCond .eq 7, 3)) ∧ (decode cX12_about 127 = .ok (.iconst 1, 1)) ∧ (decode cX12_about 128 = .ok (.goto 4, 3)) ∧ (decode cX12_about 131 = .ok (.iconst 0, 1)) ∧ (decode cX12_about 132 = .ok (.ireturn, 1)) ∧ (decode cX12_about 133 = .ok (.aload_n 0, 1)) ∧ (decode cX12_about 134 = .ok (.getfield 56, 3)) ∧ (decode cX12_about 137 = .ok (.iload_n 1, 1)) ∧ (decode cX12_about 138 = .ok (.iaload, 1)) ∧ (decode cX12_about 139 = .ok (.ireturn, 1)) ∧ (decode cX12_about 140 = .ok (.bipush (-2), 2)) ∧ (decode cX12_about 142 = .ok (.ireturn, 1)) := by decide +kernel
def dX12_about_122 := edX12_about_122.1
def dX12_about_123 := edX12_about_122.2.1
def dX12_about_124 := edX12_about_122.2.2.1
def dX12_about_127 := edX12_about_122.2.2.2.1
def dX12_about_128 := edX12_about_122.2.2.2.2.1
def dX12_about_131 := edX12_about_122.2.2.2.2.2.1
def dX12_about_132 := edX12_about_122.2.2.2.2.2.2.1
def dX12_about_133 := edX12_about_122.2.2.2.2.2.2.2.1
def dX12_about_134 := edX12_about_122.2.2.2.2.2.2.2.2.1
def dX12_about_137 := edX12_about_122.2.2.2.2.2.2.2.2.2.1
def dX12_about_138 := edX12_about_122.2.2.2.2.2.2.2.2.2.2.1
def dX12_about_139 := edX12_about_122.2.2.2.2.2.2.2.2.2.2.2.1
def dX12_about_140 := edX12_about_122.2.2.2.2.2.2.2.2.2.2.2.2.1
def dX12_about_142 := edX12_about_122.2.2.2.2.2.2.2.2.2.2.2.2.2
set_option maxRecDepth 100000 in
theorem ggX12_order_X12_noCylinder : GoodIn wsX12_order wsX12_noCylinder := goodIn_ca (b := wsX120) (goodIn_s _ [12, 13, 14, 10] [11, 15] (by decide +kernel) rfl (by decide +kernel)) (goodIn_sub (fun w h => List.mem_cons_of_mem _ (List.mem_append_right _ h)) gs_wsX120)
set_option maxRecDepth 20000 in
theorem gX12_order_X12_noCylinder : GoodIn wsX12_order (wsV RX12 189 RX12 yX12_noCylinder wsX12_noCylinder) := goodIn_app (goodIn_of _ (by decide +kernel)) ggX12_order_X12_noCylinder
set_option maxRecDepth 100000 in
theorem ggX12_order_X12_in : GoodIn wsX12_order wsX12_in := goodIn_s _ [] [15] (by decide +kernel) rfl (by decide +kernel)
set_option maxRecDepth 20000 in
theorem gX12_order_X12_in : GoodIn wsX12_order (va_wsS RX12 150 yX12_in wsX12_in) := goodIn_app (goodIn_of _ (by decide +kernel)) ggX12_order_X12_in
theorem edX12_order_0 : (decode cX12_order 0 = .ok (.aload_n 0, 1)) ∧ (decode cX12_order 1 = .ok (.iload_n 1, 1)) ∧ (decode cX12_order 2 = .ok (.invokevirtual 189, 3)) ∧ (decode cX12_order 5 = .ok (.ifCond .ne 11, 3)) ∧ (decode cX12_order 8 = .ok (.aload_n 0, 1)) ∧ (decode cX12_order 9 = .ok (.iload_n 3, 1)) ∧ (decode cX12_order 10 = .ok (.invokevirtual 189, 3)) ∧ (decode cX12_order 13 = .ok (.ifCond .eq 5, 3)) ∧ (decode cX12_order 16 = .ok (.iconst (-1), 1)) ∧ (decode cX12_order 17 = .ok (.ireturn, 1)) ∧ (decode cX12_order 18 = .ok (.iload_n 2, 1)) ∧ (decode cX12_order 19 = .ok (.i2l, 1)) ∧ (decode cX12_order 20 = .ok (.lconst 0, 1)) ∧ (decode cX12_order 21 = .ok (.ldc2_w 162, 3)) ∧ (decode cX12_order 24 = .ok (.invokestatic 150, 3)) ∧ (decode cX12_order 27 = .ok (.ifCond .eq 16, 3)) := by decide +kernel
def dX12_order_0 := edX12_order_0.1
def dX12_order_1 := edX12_order_0.2.1
def dX12_order_2 := edX12_order_0.2.2.1
def dX12_order_5 := edX12_order_0.2.2.2.1
def dX12_order_8 := edX12_order_0.2.2.2.2.1
def dX12_order_9 := edX12_order_0.2.2.2.2.2.1
def dX12_order_10 := edX12_order_0.2.2.2.2.2.2.1
def dX12_order_13 := edX12_order_0.2.2.2.2.2.2.2.1
def dX12_order_16 := edX12_order_0.2.2.2.2.2.2.2.2.1
def dX12_order_17 := edX12_order_0.2.2.2.2.2.2.2.2.2.1
def dX12_order_18 := edX12_order_0.2.2.2.2.2.2.2.2.2.2.1
def dX12_order_19 := edX12_order_0.2.2.2.2.2.2.2.2.2.2.2.1
def dX12_order_20 := edX12_order_0.2.2.2.2.2.2.2.2.2.2.2.2.1
def dX12_order_21 := edX12_order_0.2.2.2.2.2.2.2.2.2.2.2.2.2.1
def dX12_order_24 := edX12_order_0.2.2.2.2.2.2.2.2.2.2.2.2.2.2.1
def dX12_order_27 := edX12_order_0.2.2.2.2.2.2.2.2.2.2.2.2.2.2.2
theorem edX12_order_30 : (decode cX12_order 30 = .ok (.iload 4, 2)) ∧ (decode cX12_order 32 = .ok (.i2l, 1)) ∧ (decode cX12_order 33 = .ok (.lconst 0, 1)) ∧ (decode cX12_order 34 = .ok (.ldc2_w 162, 3)) ∧ (decode cX12_order 37 = .ok (.invokestatic 150, 3)) ∧ (decode cX12_order 40 = .ok (.ifCond .ne 6, 3)) ∧ (decode cX12_order 43 = .ok (.bipush (-2), 2)) ∧ (decode cX12_order 45 = .ok (.ireturn, 1)) ∧ (decode cX12_order 46 = .ok (.aload_n 0, 1)) ∧ (decode cX12_order 47 = .ok (.getfield 221, 3)) ∧ (decode cX12_order 50 = .ok (.bipush 30, 2)) ∧ (decode cX12_order 52 = .ok (.if_icmp .ne 6, 3)) ∧ (decode cX12_order 55 = .ok (.bipush (-4), 2)) ∧ (decode cX12_order 57 = .ok (.ireturn, 1)) ∧ (decode cX12_order 58 = .ok (.aload_n 0, 1)) ∧ (decode cX12_order 59 = .ok (.getfield 59, 3)) := by decide +kernel
def dX12_order_30 := edX12_order_30.1
def dX12_order_32 := edX12_order_30.2.1
def dX12_order_33 := edX12_order_30.2.2.1
def dX12_order_34 := edX12_order_30.2.2.2.1
def dX12_order_37 := edX12_order_30.2.2.2.2.1
def dX12_order_40 := edX12_order_30.2.2.2.2.2.1
def dX12_order_43 := edX12_order_30.2.2.2.2.2.2.1
def dX12_order_45 := edX12_order_30.2.2.2.2.2.2.2.1
def dX12_order_46 := edX12_order_30.2.2.2.2.2.2.2.2.1
def dX12_order_47 := edX12_order_30.2.2.2.2.2.2.2.2.2.1
def dX12_order_50 := edX12_order_30.2.2.2.2.2.2.2.2.2.2.1
def dX12_order_52 := edX12_order_30.2.2.2.2.2.2.2.2.2.2.2.1
def dX12_order_55 := edX12_order_30.2.2.2.2.2.2.2.2.2.2.2.2.1
def dX12_order_57 := edX12_order_30.2.2.2.2.2.2.2.2.2.2.2.2.2.1
def dX12_order_58 := edX12_order_30.2.2.2.2.2.2.2.2.2.2.2.2.2.2.1
def dX12_order_59 := edX12_order_30.2.2.2.2.2.2.2.2.2.2.2.2.2.2.2
theorem edX12_order_62 : (decode cX12_order 62 = .ok (.aload_n 0, 1)) ∧ (decode cX12_order 63 = .ok (.getfield 221, 3)) ∧ (decode cX12_order 66 = .ok (.iload_n 1, 1)) ∧ (decode cX12_order 67 = .ok (.iastore, 1)) ∧ (decode cX12_order 68 = .ok (.aload_n 0, 1)) ∧ (decode cX12_order 69 = .ok (.getfield 62, 3)) ∧ (decode cX12_order 72 = .ok (.aload_n 0, 1)) ∧ (decode cX12_order 73 = .ok (.getfield 221, 3)) ∧ (decode cX12_order 76 = .ok (.iload_n 2, 1)) ∧ (decode cX12_order 77 = .ok (.iastore, 1)) ∧ (decode cX12_order 78 = .ok (.aload_n 0, 1)) ∧ (decode cX12_order 79 = .ok (.getfield 65, 3)) ∧ (decode cX12_order 82 = .ok (.aload_n 0, 1)) ∧ (decode cX12_order 83 = .ok (.getfield 221, 3)) ∧ (decode cX12_order 86 = .ok (.iload_n 3, 1)) ∧ (decode cX12_order 87 = .ok (.iastore, 1)) := by decide +kernel
def dX12_order_62 := edX12_order_62.1
def dX12_order_63 := edX12_order_62.2.1
def dX12_order_66 := edX12_order_62.2.2.1
def dX12_order_67 := edX12_order_62.2.2.2.1
def dX12_order_68 := edX12_order_62.2.2.2.2.1
def dX12_order_69 := edX12_order_62.2.2.2.2.2.1
def dX12_order_72 := edX12_order_62.2.2.2.2.2.2.1
def dX12_order_73 := edX12_order_62.2.2.2.2.2.2.2.1
def dX12_order_76 := edX12_order_62.2.2.2.2.2.2.2.2.1
def dX12_order_77 := edX12_order_62.2.2.2.2.2.2.2.2.2.1
def dX12_order_78 := edX12_order_62.2.2.2.2.2.2.2.2.2.2.1
def dX12_order_79 := edX12_order_62.2.2.2.2.2.2.2.2.2.2.2.1
def dX12_order_82 := edX12_order_62.2.2.2.2.2.2.2.2.2.2.2.2.1
def dX12_order_83 := edX12_order_62.2.2.2.2.2.2.2.2.2.2.2.2.2.1
def dX12_order_86 := edX12_order_62.2.2.2.2.2.2.2.2.2.2.2.2.2.2.1
def dX12_order_87 := edX12_order_62.2.2.2.2.2.2.2.2.2.2.2.2.2.2.2
theorem edX12_order_88 : (decode cX12_order 88 = .ok (.aload_n 0, 1)) ∧ (decode cX12_order 89 = .ok (.getfield 68, 3)) ∧ (decode cX12_order 92 = .ok (.aload_n 0, 1)) ∧ (decode cX12_order 93 = .ok (.getfield 221, 3)) ∧ (decode cX12_order 96 = .ok (.iload 4, 2)) ∧ (decode cX12_order 98 = .ok (.iastore, 1)) ∧ (decode cX12_order 99 = .ok (.aload_n 0, 1)) ∧ (decode cX12_order 100 = .ok (.dup, 1)) ∧ (decode cX12_order 101 = .ok (.getfield 221, 3)) ∧ (decode cX12_order 104 = .ok (.iconst 1, 1)) ∧ (decode cX12_order 105 = .ok (.iadd, 1)) ∧ (decode cX12_order 106 = .ok (.putfield 221, 3)) ∧ (decode cX12_order 109 = .ok (.aload_n 0, 1)) ∧ (decode cX12_order 110 = .ok (.getfield 221, 3)) ∧ (decode cX12_order 113 = .ok (.ireturn, 1)) := by decide +kernel
def dX12_order_88 := edX12_order_88.1
def dX12_order_89 := edX12_order_88.2.1
def dX12_order_92 := edX12_order_88.2.2.1
def dX12_order_93 := edX12_order_88.2.2.2.1
def dX12_order_96 := edX12_order_88.2.2.2.2.1
def dX12_order_98 := edX12_order_88.2.2.2.2.2.1
def dX12_order_99 := edX12_order_88.2.2.2.2.2.2.1
def dX12_order_100 := edX12_order_88.2.2.2.2.2.2.2.1
def dX12_order_101 := edX12_order_88.2.2.2.2.2.2.2.2.1
def dX12_order_104 := edX12_order_88.2.2.2.2.2.2.2.2.2.1
def dX12_order_105 := edX12_order_88.2.2.2.2.2.2.2.2.2.2.1
def dX12_order_106 := edX12_order_88.2.2.2.2.2.2.2.2.2.2.2.1
def dX12_order_109 := edX12_order_88.2.2.2.2.2.2.2.2.2.2.2.2.1
def dX12_order_110 := edX12_order_88.2.2.2.2.2.2.2.2.2.2.2.2.2.1
def dX12_order_113 := edX12_order_88.2.2.2.2.2.2.2.2.2.2.2.2.2.2
theorem edX12_waits_0 : (decode cX12_waits 0 = .ok (.aload_n 0, 1)) ∧ (decode cX12_waits 1 = .ok (.getfield 224, 3)) ∧ (decode cX12_waits 4 = .ok (.ireturn, 1)) := by decide +kernel
def dX12_waits_0 := edX12_waits_0.1
def dX12_waits_1 := edX12_waits_0.2.1
def dX12_waits_4 := edX12_waits_0.2.2
set_option maxRecDepth 100000 in
theorem ggX12_mayBeDone_X12_room : GoodIn wsX12_mayBeDone wsX12_room := goodIn_ca (b := wsX120) (goodIn_s _ [9, 10] [8] (by decide +kernel) rfl (by decide +kernel)) (goodIn_sub (fun w h => List.mem_cons_of_mem _ (List.mem_append_right _ h)) gs_wsX120)
set_option maxRecDepth 20000 in
theorem gX12_mayBeDone_X12_room : GoodIn wsX12_mayBeDone (wsV RX12 198 RX12 yX12_room wsX12_room) := goodIn_app (goodIn_of _ (by decide +kernel)) ggX12_mayBeDone_X12_room
theorem edX12_mayBeDone_0 : (decode cX12_mayBeDone 0 = .ok (.aload_n 0, 1)) ∧ (decode cX12_mayBeDone 1 = .ok (.getfield 59, 3)) ∧ (decode cX12_mayBeDone 4 = .ok (.iload_n 1, 1)) ∧ (decode cX12_mayBeDone 5 = .ok (.iaload, 1)) ∧ (decode cX12_mayBeDone 6 = .ok (.istore_n 2, 1)) ∧ (decode cX12_mayBeDone 7 = .ok (.aload_n 0, 1)) ∧ (decode cX12_mayBeDone 8 = .ok (.getfield 62, 3)) ∧ (decode cX12_mayBeDone 11 = .ok (.iload_n 1, 1)) ∧ (decode cX12_mayBeDone 12 = .ok (.iaload, 1)) ∧ (decode cX12_mayBeDone 13 = .ok (.ifCond .eq 39, 3)) ∧ (decode cX12_mayBeDone 16 = .ok (.aload_n 0, 1)) ∧ (decode cX12_mayBeDone 17 = .ok (.getfield 62, 3)) ∧ (decode cX12_mayBeDone 20 = .ok (.iload_n 1, 1)) ∧ (decode cX12_mayBeDone 21 = .ok (.iaload, 1)) ∧ (decode cX12_mayBeDone 22 = .ok (.iconst 1, 1)) ∧ (decode cX12_mayBeDone 23 = .ok (.if_icmp .ne 20, 3)) := by decide +kernel
def dX12_mayBeDone_0 := edX12_mayBeDone_0.1
def dX12_mayBeDone_1 := edX12_mayBeDone_0.2.1
def dX12_mayBeDone_4 := edX12_mayBeDone_0.2.2.1
def dX12_mayBeDone_5 := edX12_mayBeDone_0.2.2.2.1
def dX12_mayBeDone_6 := edX12_mayBeDone_0.2.2.2.2.1
def dX12_mayBeDone_7 := edX12_mayBeDone_0.2.2.2.2.2.1
def dX12_mayBeDone_8 := edX12_mayBeDone_0.2.2.2.2.2.2.1
def dX12_mayBeDone_11 := edX12_mayBeDone_0.2.2.2.2.2.2.2.1
def dX12_mayBeDone_12 := edX12_mayBeDone_0.2.2.2.2.2.2.2.2.1
def dX12_mayBeDone_13 := edX12_mayBeDone_0.2.2.2.2.2.2.2.2.2.1
def dX12_mayBeDone_16 := edX12_mayBeDone_0.2.2.2.2.2.2.2.2.2.2.1
def dX12_mayBeDone_17 := edX12_mayBeDone_0.2.2.2.2.2.2.2.2.2.2.2.1
def dX12_mayBeDone_20 := edX12_mayBeDone_0.2.2.2.2.2.2.2.2.2.2.2.2.1
def dX12_mayBeDone_21 := edX12_mayBeDone_0.2.2.2.2.2.2.2.2.2.2.2.2.2.1
def dX12_mayBeDone_22 := edX12_mayBeDone_0.2.2.2.2.2.2.2.2.2.2.2.2.2.2.1
def dX12_mayBeDone_23 := edX12_mayBeDone_0.2.2.2.2.2.2.2.2.2.2.2.2.2.2.2
theorem edX12_mayBeDone_26 : (decode cX12_mayBeDone 26 = .ok (.aload_n 0, 1)) ∧ (decode cX12_mayBeDone 27 = .ok (.getfield 31, 3)) ∧ (decode cX12_mayBeDone 30 = .ok (.iload_n 2, 1)) ∧ (decode cX12_mayBeDone 31 = .ok (.iaload, 1)) ∧ (decode cX12_mayBeDone 32 = .ok (.aload_n 0, 1)) ∧ (decode cX12_mayBeDone 33 = .ok (.iload_n 2, 1)) ∧ (decode cX12_mayBeDone 34 = .ok (.invokevirtual 198, 3)) ∧ (decode cX12_mayBeDone 37 = .ok (.if_icmp .ne 19, 3)) ∧ (decode cX12_mayBeDone 40 = .ok (.goto 12, 3)) ∧ (decode cX12_mayBeDone 43 = .ok (.aload_n 0, 1)) ∧ (decode cX12_mayBeDone 44 = .ok (.getfield 31, 3)) ∧ (decode cX12_mayBeDone 47 = .ok (.iload_n 2, 1)) ∧ (decode cX12_mayBeDone 48 = .ok (.iaload, 1)) ∧ (decode cX12_mayBeDone 49 = .ok (.ifCond .ne 7, 3)) ∧ (decode cX12_mayBeDone 52 = .ok (.iconst 1, 1)) ∧ (decode cX12_mayBeDone 53 = .ok (.goto 4, 3)) := by decide +kernel
def dX12_mayBeDone_26 := edX12_mayBeDone_26.1
def dX12_mayBeDone_27 := edX12_mayBeDone_26.2.1
def dX12_mayBeDone_30 := edX12_mayBeDone_26.2.2.1
def dX12_mayBeDone_31 := edX12_mayBeDone_26.2.2.2.1
def dX12_mayBeDone_32 := edX12_mayBeDone_26.2.2.2.2.1
def dX12_mayBeDone_33 := edX12_mayBeDone_26.2.2.2.2.2.1
def dX12_mayBeDone_34 := edX12_mayBeDone_26.2.2.2.2.2.2.1
def dX12_mayBeDone_37 := edX12_mayBeDone_26.2.2.2.2.2.2.2.1
def dX12_mayBeDone_40 := edX12_mayBeDone_26.2.2.2.2.2.2.2.2.1
def dX12_mayBeDone_43 := edX12_mayBeDone_26.2.2.2.2.2.2.2.2.2.1
def dX12_mayBeDone_44 := edX12_mayBeDone_26.2.2.2.2.2.2.2.2.2.2.1
def dX12_mayBeDone_47 := edX12_mayBeDone_26.2.2.2.2.2.2.2.2.2.2.2.1
def dX12_mayBeDone_48 := edX12_mayBeDone_26.2.2.2.2.2.2.2.2.2.2.2.2.1
def dX12_mayBeDone_49 := edX12_mayBeDone_26.2.2.2.2.2.2.2.2.2.2.2.2.2.1
def dX12_mayBeDone_52 := edX12_mayBeDone_26.2.2.2.2.2.2.2.2.2.2.2.2.2.2.1
def dX12_mayBeDone_53 := edX12_mayBeDone_26.2.2.2.2.2.2.2.2.2.2.2.2.2.2.2
theorem edX12_mayBeDone_56 : (decode cX12_mayBeDone 56 = .ok (.iconst 0, 1)) ∧ (decode cX12_mayBeDone 57 = .ok (.ireturn, 1)) := by decide +kernel
def dX12_mayBeDone_56 := edX12_mayBeDone_56.1
def dX12_mayBeDone_57 := edX12_mayBeDone_56.2
set_option maxRecDepth 100000 in
theorem ggX12_loseFrom_X12_lesser : GoodIn wsX12_loseFrom wsX12_lesser := goodIn_s _ [] [6] (by decide +kernel) rfl (by decide +kernel)
set_option maxRecDepth 20000 in
theorem gX12_loseFrom_X12_lesser : GoodIn wsX12_loseFrom (va_wsS RX12 212 yX12_lesser wsX12_lesser) := goodIn_app (goodIn_of _ (by decide +kernel)) ggX12_loseFrom_X12_lesser
theorem edX12_loseFrom_0 : (decode cX12_loseFrom 0 = .ok (.iload_n 2, 1)) ∧ (decode cX12_loseFrom 1 = .ok (.aload_n 0, 1)) ∧ (decode cX12_loseFrom 2 = .ok (.getfield 31, 3)) ∧ (decode cX12_loseFrom 5 = .ok (.iload_n 1, 1)) ∧ (decode cX12_loseFrom 6 = .ok (.iaload, 1)) ∧ (decode cX12_loseFrom 7 = .ok (.invokestatic 212, 3)) ∧ (decode cX12_loseFrom 10 = .ok (.istore_n 3, 1)) ∧ (decode cX12_loseFrom 11 = .ok (.aload_n 0, 1)) ∧ (decode cX12_loseFrom 12 = .ok (.getfield 31, 3)) ∧ (decode cX12_loseFrom 15 = .ok (.iload_n 1, 1)) ∧ (decode cX12_loseFrom 16 = .ok (.dup2, 1)) ∧ (decode cX12_loseFrom 17 = .ok (.iaload, 1)) ∧ (decode cX12_loseFrom 18 = .ok (.iload_n 3, 1)) ∧ (decode cX12_loseFrom 19 = .ok (.isub, 1)) ∧ (decode cX12_loseFrom 20 = .ok (.iastore, 1)) ∧ (decode cX12_loseFrom 21 = .ok (.aload_n 0, 1)) := by decide +kernel
def dX12_loseFrom_0 := edX12_loseFrom_0.1
def dX12_loseFrom_1 := edX12_loseFrom_0.2.1
def dX12_loseFrom_2 := edX12_loseFrom_0.2.2.1
def dX12_loseFrom_5 := edX12_loseFrom_0.2.2.2.1
def dX12_loseFrom_6 := edX12_loseFrom_0.2.2.2.2.1
def dX12_loseFrom_7 := edX12_loseFrom_0.2.2.2.2.2.1
def dX12_loseFrom_10 := edX12_loseFrom_0.2.2.2.2.2.2.1
def dX12_loseFrom_11 := edX12_loseFrom_0.2.2.2.2.2.2.2.1
def dX12_loseFrom_12 := edX12_loseFrom_0.2.2.2.2.2.2.2.2.1
def dX12_loseFrom_15 := edX12_loseFrom_0.2.2.2.2.2.2.2.2.2.1
def dX12_loseFrom_16 := edX12_loseFrom_0.2.2.2.2.2.2.2.2.2.2.1
def dX12_loseFrom_17 := edX12_loseFrom_0.2.2.2.2.2.2.2.2.2.2.2.1
def dX12_loseFrom_18 := edX12_loseFrom_0.2.2.2.2.2.2.2.2.2.2.2.2.1
def dX12_loseFrom_19 := edX12_loseFrom_0.2.2.2.2.2.2.2.2.2.2.2.2.2.1
def dX12_loseFrom_20 := edX12_loseFrom_0.2.2.2.2.2.2.2.2.2.2.2.2.2.2.1
def dX12_loseFrom_21 := edX12_loseFrom_0.2.2.2.2.2.2.2.2.2.2.2.2.2.2.2
theorem edX12_loseFrom_22 : (decode cX12_loseFrom 22 = .ok (.getfield 56, 3)) ∧ (decode cX12_loseFrom 25 = .ok (.iload_n 1, 1)) ∧ (decode cX12_loseFrom 26 = .ok (.iload_n 3, 1)) ∧ (decode cX12_loseFrom 27 = .ok (.ineg, 1)) ∧ (decode cX12_loseFrom 28 = .ok (.iastore, 1)) ∧ (decode cX12_loseFrom 29 = .ok (.return_, 1)) := by decide +kernel
def dX12_loseFrom_22 := edX12_loseFrom_22.1
def dX12_loseFrom_25 := edX12_loseFrom_22.2.1
def dX12_loseFrom_26 := edX12_loseFrom_22.2.2.1
def dX12_loseFrom_27 := edX12_loseFrom_22.2.2.2.1
def dX12_loseFrom_28 := edX12_loseFrom_22.2.2.2.2.1
def dX12_loseFrom_29 := edX12_loseFrom_22.2.2.2.2.2
set_option maxRecDepth 100000 in
theorem ggX12_loseAll_X12_loseFrom : GoodIn wsX12_loseAll wsX12_loseFrom := goodIn_ca (b := wsX120) (goodIn_s _ [13, 2, 14, 15, 11] [12, 16] (by decide +kernel) rfl (by decide +kernel)) (goodIn_sub (fun w h => List.mem_cons_of_mem _ (List.mem_append_right _ h)) gs_wsX120)
set_option maxRecDepth 20000 in
theorem gX12_loseAll_X12_loseFrom : GoodIn wsX12_loseAll (wsV RX12 227 RX12 yX12_loseFrom wsX12_loseFrom) := goodIn_app (goodIn_of _ (by decide +kernel)) ggX12_loseAll_X12_loseFrom
set_option maxRecDepth 100000 in
theorem ggX12_loseAll_X12_loadOf : GoodIn wsX12_loseAll wsX12_loadOf := goodIn_ca (b := wsX120) (goodIn_s _ [13, 21, 22, 23, 24, 25, 11, 27, 28, 14, 15] [20, 26, 16] (by decide +kernel) rfl (by decide +kernel)) (goodIn_sub (fun w h => List.mem_cons_of_mem _ (List.mem_append_right _ h)) gs_wsX120)
set_option maxRecDepth 20000 in
theorem gX12_loseAll_X12_loadOf : GoodIn wsX12_loseAll (wsV RX12 215 RX12 yX12_loadOf wsX12_loadOf) := goodIn_app (goodIn_of _ (by decide +kernel)) ggX12_loseAll_X12_loadOf
theorem edX12_loseAll_0 : (decode cX12_loseAll 0 = .ok (.iconst 0, 1)) ∧ (decode cX12_loseAll 1 = .ok (.istore_n 1, 1)) ∧ (decode cX12_loseAll 2 = .ok (.iload_n 1, 1)) ∧ (decode cX12_loseAll 3 = .ok (.aload_n 0, 1)) ∧ (decode cX12_loseAll 4 = .ok (.getfield 179, 3)) ∧ (decode cX12_loseAll 7 = .ok (.if_icmp .ge 113, 3)) ∧ (decode cX12_loseAll 10 = .ok (.aload_n 0, 1)) ∧ (decode cX12_loseAll 11 = .ok (.getfield 56, 3)) ∧ (decode cX12_loseAll 14 = .ok (.iload_n 1, 1)) ∧ (decode cX12_loseAll 15 = .ok (.iconst 0, 1)) ∧ (decode cX12_loseAll 16 = .ok (.iastore, 1)) ∧ (decode cX12_loseAll 17 = .ok (.aload_n 0, 1)) ∧ (decode cX12_loseAll 18 = .ok (.getfield 52, 3)) ∧ (decode cX12_loseAll 21 = .ok (.iload_n 1, 1)) ∧ (decode cX12_loseAll 22 = .ok (.baload, 1)) ∧ (decode cX12_loseAll 23 = .ok (.ifCond .eq 30, 3)) := by decide +kernel
def dX12_loseAll_0 := edX12_loseAll_0.1
def dX12_loseAll_1 := edX12_loseAll_0.2.1
def dX12_loseAll_2 := edX12_loseAll_0.2.2.1
def dX12_loseAll_3 := edX12_loseAll_0.2.2.2.1
def dX12_loseAll_4 := edX12_loseAll_0.2.2.2.2.1
def dX12_loseAll_7 := edX12_loseAll_0.2.2.2.2.2.1
def dX12_loseAll_10 := edX12_loseAll_0.2.2.2.2.2.2.1
def dX12_loseAll_11 := edX12_loseAll_0.2.2.2.2.2.2.2.1
def dX12_loseAll_14 := edX12_loseAll_0.2.2.2.2.2.2.2.2.1
def dX12_loseAll_15 := edX12_loseAll_0.2.2.2.2.2.2.2.2.2.1
def dX12_loseAll_16 := edX12_loseAll_0.2.2.2.2.2.2.2.2.2.2.1
def dX12_loseAll_17 := edX12_loseAll_0.2.2.2.2.2.2.2.2.2.2.2.1
def dX12_loseAll_18 := edX12_loseAll_0.2.2.2.2.2.2.2.2.2.2.2.2.1
def dX12_loseAll_21 := edX12_loseAll_0.2.2.2.2.2.2.2.2.2.2.2.2.2.1
def dX12_loseAll_22 := edX12_loseAll_0.2.2.2.2.2.2.2.2.2.2.2.2.2.2.1
def dX12_loseAll_23 := edX12_loseAll_0.2.2.2.2.2.2.2.2.2.2.2.2.2.2.2
theorem edX12_loseAll_26 : (decode cX12_loseAll 26 = .ok (.aload_n 0, 1)) ∧ (decode cX12_loseAll 27 = .ok (.iload_n 1, 1)) ∧ (decode cX12_loseAll 28 = .ok (.aload_n 0, 1)) ∧ (decode cX12_loseAll 29 = .ok (.getfield 22, 3)) ∧ (decode cX12_loseAll 32 = .ok (.iload_n 1, 1)) ∧ (decode cX12_loseAll 33 = .ok (.iaload, 1)) ∧ (decode cX12_loseAll 34 = .ok (.ifCond .ne 12, 3)) ∧ (decode cX12_loseAll 37 = .ok (.aload_n 0, 1)) ∧ (decode cX12_loseAll 38 = .ok (.getfield 43, 3)) ∧ (decode cX12_loseAll 41 = .ok (.iload_n 1, 1)) ∧ (decode cX12_loseAll 42 = .ok (.iaload, 1)) ∧ (decode cX12_loseAll 43 = .ok (.goto 4, 3)) ∧ (decode cX12_loseAll 46 = .ok (.iconst 0, 1)) ∧ (decode cX12_loseAll 47 = .ok (.invokevirtual 227, 3)) ∧ (decode cX12_loseAll 50 = .ok (.goto 64, 3)) ∧ (decode cX12_loseAll 53 = .ok (.aload_n 0, 1)) := by decide +kernel
def dX12_loseAll_26 := edX12_loseAll_26.1
def dX12_loseAll_27 := edX12_loseAll_26.2.1
def dX12_loseAll_28 := edX12_loseAll_26.2.2.1
def dX12_loseAll_29 := edX12_loseAll_26.2.2.2.1
def dX12_loseAll_32 := edX12_loseAll_26.2.2.2.2.1
def dX12_loseAll_33 := edX12_loseAll_26.2.2.2.2.2.1
def dX12_loseAll_34 := edX12_loseAll_26.2.2.2.2.2.2.1
def dX12_loseAll_37 := edX12_loseAll_26.2.2.2.2.2.2.2.1
def dX12_loseAll_38 := edX12_loseAll_26.2.2.2.2.2.2.2.2.1
def dX12_loseAll_41 := edX12_loseAll_26.2.2.2.2.2.2.2.2.2.1
def dX12_loseAll_42 := edX12_loseAll_26.2.2.2.2.2.2.2.2.2.2.1
def dX12_loseAll_43 := edX12_loseAll_26.2.2.2.2.2.2.2.2.2.2.2.1
def dX12_loseAll_46 := edX12_loseAll_26.2.2.2.2.2.2.2.2.2.2.2.2.1
def dX12_loseAll_47 := edX12_loseAll_26.2.2.2.2.2.2.2.2.2.2.2.2.2.1
def dX12_loseAll_50 := edX12_loseAll_26.2.2.2.2.2.2.2.2.2.2.2.2.2.2.1
def dX12_loseAll_53 := edX12_loseAll_26.2.2.2.2.2.2.2.2.2.2.2.2.2.2.2
theorem edX12_loseAll_54 : (decode cX12_loseAll 54 = .ok (.getfield 49, 3)) ∧ (decode cX12_loseAll 57 = .ok (.iload_n 1, 1)) ∧ (decode cX12_loseAll 58 = .ok (.iaload, 1)) ∧ (decode cX12_loseAll 59 = .ok (.iconst 2, 1)) ∧ (decode cX12_loseAll 60 = .ok (.if_icmp .ne 17, 3)) ∧ (decode cX12_loseAll 63 = .ok (.aload_n 0, 1)) ∧ (decode cX12_loseAll 64 = .ok (.iload_n 1, 1)) ∧ (decode cX12_loseAll 65 = .ok (.aload_n 0, 1)) ∧ (decode cX12_loseAll 66 = .ok (.getfield 43, 3)) ∧ (decode cX12_loseAll 69 = .ok (.iload_n 1, 1)) ∧ (decode cX12_loseAll 70 = .ok (.iaload, 1)) ∧ (decode cX12_loseAll 71 = .ok (.invokevirtual 227, 3)) ∧ (decode cX12_loseAll 74 = .ok (.goto 40, 3)) ∧ (decode cX12_loseAll 77 = .ok (.aload_n 0, 1)) ∧ (decode cX12_loseAll 78 = .ok (.getfield 49, 3)) ∧ (decode cX12_loseAll 81 = .ok (.iload_n 1, 1)) := by decide +kernel
def dX12_loseAll_54 := edX12_loseAll_54.1
def dX12_loseAll_57 := edX12_loseAll_54.2.1
def dX12_loseAll_58 := edX12_loseAll_54.2.2.1
def dX12_loseAll_59 := edX12_loseAll_54.2.2.2.1
def dX12_loseAll_60 := edX12_loseAll_54.2.2.2.2.1
def dX12_loseAll_63 := edX12_loseAll_54.2.2.2.2.2.1
def dX12_loseAll_64 := edX12_loseAll_54.2.2.2.2.2.2.1
def dX12_loseAll_65 := edX12_loseAll_54.2.2.2.2.2.2.2.1
def dX12_loseAll_66 := edX12_loseAll_54.2.2.2.2.2.2.2.2.1
def dX12_loseAll_69 := edX12_loseAll_54.2.2.2.2.2.2.2.2.2.1
def dX12_loseAll_70 := edX12_loseAll_54.2.2.2.2.2.2.2.2.2.2.1
def dX12_loseAll_71 := edX12_loseAll_54.2.2.2.2.2.2.2.2.2.2.2.1
def dX12_loseAll_74 := edX12_loseAll_54.2.2.2.2.2.2.2.2.2.2.2.2.1
def dX12_loseAll_77 := edX12_loseAll_54.2.2.2.2.2.2.2.2.2.2.2.2.2.1
def dX12_loseAll_78 := edX12_loseAll_54.2.2.2.2.2.2.2.2.2.2.2.2.2.2.1
def dX12_loseAll_81 := edX12_loseAll_54.2.2.2.2.2.2.2.2.2.2.2.2.2.2.2
theorem edX12_loseAll_82 : (decode cX12_loseAll 82 = .ok (.iaload, 1)) ∧ (decode cX12_loseAll 83 = .ok (.ifCond .ne 31, 3)) ∧ (decode cX12_loseAll 86 = .ok (.aload_n 0, 1)) ∧ (decode cX12_loseAll 87 = .ok (.getfield 22, 3)) ∧ (decode cX12_loseAll 90 = .ok (.iload_n 1, 1)) ∧ (decode cX12_loseAll 91 = .ok (.iaload, 1)) ∧ (decode cX12_loseAll 92 = .ok (.ifCond .ne 22, 3)) ∧ (decode cX12_loseAll 95 = .ok (.aload_n 0, 1)) ∧ (decode cX12_loseAll 96 = .ok (.iload_n 1, 1)) ∧ (decode cX12_loseAll 97 = .ok (.invokevirtual 215, 3)) ∧ (decode cX12_loseAll 100 = .ok (.ifCond .le 14, 3)) ∧ (decode cX12_loseAll 103 = .ok (.aload_n 0, 1)) ∧ (decode cX12_loseAll 104 = .ok (.iload_n 1, 1)) ∧ (decode cX12_loseAll 105 = .ok (.aload_n 0, 1)) ∧ (decode cX12_loseAll 106 = .ok (.getfield 46, 3)) ∧ (decode cX12_loseAll 109 = .ok (.iload_n 1, 1)) := by decide +kernel
def dX12_loseAll_82 := edX12_loseAll_82.1
def dX12_loseAll_83 := edX12_loseAll_82.2.1
def dX12_loseAll_86 := edX12_loseAll_82.2.2.1
def dX12_loseAll_87 := edX12_loseAll_82.2.2.2.1
def dX12_loseAll_90 := edX12_loseAll_82.2.2.2.2.1
def dX12_loseAll_91 := edX12_loseAll_82.2.2.2.2.2.1
def dX12_loseAll_92 := edX12_loseAll_82.2.2.2.2.2.2.1
def dX12_loseAll_95 := edX12_loseAll_82.2.2.2.2.2.2.2.1
def dX12_loseAll_96 := edX12_loseAll_82.2.2.2.2.2.2.2.2.1
def dX12_loseAll_97 := edX12_loseAll_82.2.2.2.2.2.2.2.2.2.1
def dX12_loseAll_100 := edX12_loseAll_82.2.2.2.2.2.2.2.2.2.2.1
def dX12_loseAll_103 := edX12_loseAll_82.2.2.2.2.2.2.2.2.2.2.2.1
def dX12_loseAll_104 := edX12_loseAll_82.2.2.2.2.2.2.2.2.2.2.2.2.1
def dX12_loseAll_105 := edX12_loseAll_82.2.2.2.2.2.2.2.2.2.2.2.2.2.1
def dX12_loseAll_106 := edX12_loseAll_82.2.2.2.2.2.2.2.2.2.2.2.2.2.2.1
def dX12_loseAll_109 := edX12_loseAll_82.2.2.2.2.2.2.2.2.2.2.2.2.2.2.2
theorem edX12_loseAll_110 : (decode cX12_loseAll 110 = .ok (.iaload, 1)) ∧ (decode cX12_loseAll 111 = .ok (.invokevirtual 227, 3)) ∧ (decode cX12_loseAll 114 = .ok (.iinc 1 1, 3)) ∧ (decode cX12_loseAll 117 = .ok (.goto (-115), 3)) ∧ (decode cX12_loseAll 120 = .ok (.return_, 1)) := by decide +kernel
def dX12_loseAll_110 := edX12_loseAll_110.1
def dX12_loseAll_111 := edX12_loseAll_110.2.1
def dX12_loseAll_114 := edX12_loseAll_110.2.2.1
def dX12_loseAll_117 := edX12_loseAll_110.2.2.2.1
def dX12_loseAll_120 := edX12_loseAll_110.2.2.2.2
set_option maxRecDepth 100000 in
theorem ggX12_findMoving_X12_needOf : GoodIn wsX12_findMoving wsX12_needOf := goodIn_ca (b := wsX120) (goodIn_s _ [17, 18, 19, 20, 21, 22, 15, 6, 24, 25, 26, 27, 28, 30, 31, 32] [16, 23, 29, 33] (by decide +kernel) rfl (by decide +kernel)) (goodIn_sub (fun w h => List.mem_cons_of_mem _ (List.mem_append_right _ h)) gs_wsX120)
set_option maxRecDepth 20000 in
theorem gX12_findMoving_X12_needOf : GoodIn wsX12_findMoving (wsV RX12 218 RX12 yX12_needOf wsX12_needOf) := goodIn_app (goodIn_of _ (by decide +kernel)) ggX12_findMoving_X12_needOf
set_option maxRecDepth 100000 in
theorem ggX12_findMoving_X12_room : GoodIn wsX12_findMoving wsX12_room := goodIn_ca (b := wsX120) (goodIn_s _ [17, 30] [29] (by decide +kernel) rfl (by decide +kernel)) (goodIn_sub (fun w h => List.mem_cons_of_mem _ (List.mem_append_right _ h)) gs_wsX120)
set_option maxRecDepth 20000 in
theorem gX12_findMoving_X12_room : GoodIn wsX12_findMoving (wsV RX12 198 RX12 yX12_room wsX12_room) := goodIn_app (goodIn_of _ (by decide +kernel)) ggX12_findMoving_X12_room
set_option maxRecDepth 100000 in
theorem ggX12_findMoving_X12_lesser : GoodIn wsX12_findMoving wsX12_lesser := goodIn_s _ [] [33] (by decide +kernel) rfl (by decide +kernel)
set_option maxRecDepth 20000 in
theorem gX12_findMoving_X12_lesser : GoodIn wsX12_findMoving (va_wsS RX12 212 yX12_lesser wsX12_lesser) := goodIn_app (goodIn_of _ (by decide +kernel)) ggX12_findMoving_X12_lesser
theorem edX12_findMoving_0 : (decode cX12_findMoving 0 = .ok (.aload_n 0, 1)) ∧ (decode cX12_findMoving 1 = .ok (.iconst 0, 1)) ∧ (decode cX12_findMoving 2 = .ok (.putfield 231, 3)) ∧ (decode cX12_findMoving 5 = .ok (.iconst 0, 1)) ∧ (decode cX12_findMoving 6 = .ok (.istore_n 1, 1)) ∧ (decode cX12_findMoving 7 = .ok (.iload_n 1, 1)) ∧ (decode cX12_findMoving 8 = .ok (.aload_n 0, 1)) ∧ (decode cX12_findMoving 9 = .ok (.getfield 179, 3)) ∧ (decode cX12_findMoving 12 = .ok (.if_icmp .ge 168, 3)) ∧ (decode cX12_findMoving 15 = .ok (.aload_n 0, 1)) ∧ (decode cX12_findMoving 16 = .ok (.getfield 77, 3)) ∧ (decode cX12_findMoving 19 = .ok (.iload_n 1, 1)) ∧ (decode cX12_findMoving 20 = .ok (.aload_n 0, 1)) ∧ (decode cX12_findMoving 21 = .ok (.iload_n 1, 1)) ∧ (decode cX12_findMoving 22 = .ok (.invokevirtual 218, 3)) ∧ (decode cX12_findMoving 25 = .ok (.iastore, 1)) := by decide +kernel
def dX12_findMoving_0 := edX12_findMoving_0.1
def dX12_findMoving_1 := edX12_findMoving_0.2.1
def dX12_findMoving_2 := edX12_findMoving_0.2.2.1
def dX12_findMoving_5 := edX12_findMoving_0.2.2.2.1
def dX12_findMoving_6 := edX12_findMoving_0.2.2.2.2.1
def dX12_findMoving_7 := edX12_findMoving_0.2.2.2.2.2.1
def dX12_findMoving_8 := edX12_findMoving_0.2.2.2.2.2.2.1
def dX12_findMoving_9 := edX12_findMoving_0.2.2.2.2.2.2.2.1
def dX12_findMoving_12 := edX12_findMoving_0.2.2.2.2.2.2.2.2.1
def dX12_findMoving_15 := edX12_findMoving_0.2.2.2.2.2.2.2.2.2.1
def dX12_findMoving_16 := edX12_findMoving_0.2.2.2.2.2.2.2.2.2.2.1
def dX12_findMoving_19 := edX12_findMoving_0.2.2.2.2.2.2.2.2.2.2.2.1
def dX12_findMoving_20 := edX12_findMoving_0.2.2.2.2.2.2.2.2.2.2.2.2.1
def dX12_findMoving_21 := edX12_findMoving_0.2.2.2.2.2.2.2.2.2.2.2.2.2.1
def dX12_findMoving_22 := edX12_findMoving_0.2.2.2.2.2.2.2.2.2.2.2.2.2.2.1
def dX12_findMoving_25 := edX12_findMoving_0.2.2.2.2.2.2.2.2.2.2.2.2.2.2.2
