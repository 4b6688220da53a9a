set_option maxRecDepth 100000 in
theorem cm_0 : Cond.code yX11_init cX11_init 2 none ∈ lw_tbl := List.mem_append_right _ (List.mem_append_left _ (List.mem_of_getElem? (i := 21) rfl))
set_option maxRecDepth 100000 in
theorem cm_1 : Cond.code objectInit ⟨#[0xb1]⟩ 1 none ∈ lw_tbl := List.mem_append_right _ (List.mem_append_left _ (List.mem_of_getElem? (i := 24) rfl))
set_option maxRecDepth 100000 in
theorem cm_2 : Cond.code yX4_init cX4_init 1 none ∈ lw_tbl := List.mem_append_right _ (List.mem_append_left _ (List.mem_of_getElem? (i := 29) rfl))
set_option maxRecDepth 100000 in
theorem cm_3 : Cond.code yX7_init cX7_init 1 none ∈ lw_tbl := List.mem_append_right _ (List.mem_append_left _ (List.mem_of_getElem? (i := 60) rfl))
set_option maxRecDepth 100000 in
theorem cm_4 : Cond.code yX8_init cX8_init 1 none ∈ lw_tbl := List.mem_append_right _ (List.mem_append_left _ (List.mem_of_getElem? (i := 66) rfl))
set_option maxRecDepth 100000 in
theorem cm_5 : Cond.code yX1_init cX1_init 1 none ∈ lw_tbl := List.mem_append_right _ (List.mem_append_left _ (List.mem_of_getElem? (i := 121) rfl))
set_option maxRecDepth 100000 in
theorem cm_6 : Cond.code yX3_init cX3_init 1 none ∈ lw_tbl := List.mem_append_right _ (List.mem_append_left _ (List.mem_of_getElem? (i := 176) rfl))
set_option maxRecDepth 100000 in
theorem cm_7 : Cond.code yX5_init cX5_init 1 none ∈ lw_tbl := List.mem_append_right _ (List.mem_append_left _ (List.mem_of_getElem? (i := 199) rfl))
set_option maxRecDepth 100000 in
theorem cm_8 : Cond.code yX9_init cX9_init 1 none ∈ lw_tbl := List.mem_append_right _ (List.mem_append_left _ (List.mem_of_getElem? (i := 221) rfl))
set_option maxRecDepth 100000 in
theorem cm_9 : Cond.code yX6_init cX6_init 1 none ∈ lw_tbl := List.mem_append_right _ (List.mem_append_left _ (List.mem_of_getElem? (i := 231) rfl))
set_option maxRecDepth 100000 in
theorem cm_10 : Cond.code yX12_init cX12_init 2 none ∈ lw_tbl := List.mem_append_right _ (List.mem_append_right _ (List.mem_append_right _ (List.mem_append_right _ (List.mem_append_left _ (List.mem_of_getElem? (i := 45) rfl)))))
set_option maxRecDepth 100000 in
theorem cm_11 : Cond.code yX11_pump cX11_pump 4 (some .int) ∈ lw_tbl := List.mem_append_right _ (List.mem_append_right _ (List.mem_append_left _ (List.mem_of_getElem? (i := 58) rfl)))
set_option maxRecDepth 100000 in
theorem cm_12 : Cond.code yX11_within cX11_within 3 (some .boolean) ∈ lw_tbl := List.mem_append_right _ (List.mem_append_right _ (List.mem_append_left _ (List.mem_of_getElem? (i := 61) rfl)))
set_option maxRecDepth 100000 in
theorem cm_13 : Cond.code yX12_pump cX12_pump 4 (some .int) ∈ lw_tbl := List.mem_append_right _ (List.mem_append_right _ (List.mem_append_right _ (List.mem_append_right _ (List.mem_append_right _ (List.mem_append_left _ (List.mem_of_getElem? (i := 62) rfl))))))
set_option maxRecDepth 100000 in
theorem cm_14 : Cond.code yX12_in cX12_in 6 (some .boolean) ∈ lw_tbl := List.mem_append_right _ (List.mem_append_right _ (List.mem_append_right _ (List.mem_append_right _ (List.mem_append_right _ (List.mem_append_left _ (List.mem_of_getElem? (i := 18) rfl))))))
set_option maxRecDepth 100000 in
theorem cm_15 : Cond.code yX11_cylinder cX11_cylinder 4 (some .int) ∈ lw_tbl := List.mem_append_right _ (List.mem_append_right _ (List.mem_append_left _ (List.mem_of_getElem? (i := 65) rfl)))
set_option maxRecDepth 100000 in
theorem cm_16 : Cond.code yX4_add cX4_add 4 (some .boolean) ∈ lw_tbl := List.mem_append_right _ (List.mem_append_right _ (List.mem_append_left _ (List.mem_of_getElem? (i := 69) rfl)))
set_option maxRecDepth 100000 in
theorem cm_17 : Cond.code yX0_init cX0_init 4 none ∈ lw_tbl := List.mem_append_right _ (List.mem_append_right _ (List.mem_append_left _ (List.mem_of_getElem? (i := 73) rfl)))
set_option maxRecDepth 100000 in
theorem cm_18 : Cond.code yX2_init cX2_init 4 none ∈ lw_tbl := List.mem_append_right _ (List.mem_append_right _ (List.mem_append_left _ (List.mem_of_getElem? (i := 107) rfl)))
set_option maxRecDepth 100000 in
theorem cm_19 : Cond.code yX10_init cX10_init 4 none ∈ lw_tbl := List.mem_append_right _ (List.mem_append_right _ (List.mem_append_left _ (List.mem_of_getElem? (i := 121) rfl)))
set_option maxRecDepth 100000 in
theorem cm_20 : Cond.code yX12_cylinder cX12_cylinder 4 (some .int) ∈ lw_tbl := List.mem_append_right _ (List.mem_append_right _ (List.mem_append_right _ (List.mem_append_right _ (List.mem_append_right _ (List.mem_append_left _ (List.mem_of_getElem? (i := 67) rfl))))))
set_option maxRecDepth 100000 in
theorem cm_21 : Cond.code yX11_rule cX11_rule 5 (some .int) ∈ lw_tbl := List.mem_append_right _ (List.mem_append_right _ (List.mem_append_left _ (List.mem_of_getElem? (i := 134) rfl)))
set_option maxRecDepth 100000 in
theorem cm_22 : Cond.code yX4_at cX4_at 2 (some (.object "OilPush$Cylinder")) ∈ lw_tbl := List.mem_append_right _ (List.mem_append_right _ (List.mem_append_left _ (List.mem_of_getElem? (i := 138) rfl)))
set_option maxRecDepth 100000 in
theorem cm_23 : Cond.code yX0_newCrack cX0_newCrack 3 (some .int) ∈ lw_tbl := List.mem_append_right _ (List.mem_append_right _ (List.mem_append_left _ (List.mem_of_getElem? (i := 145) rfl)))
set_option maxRecDepth 100000 in
theorem cm_24 : Cond.code yX0_newFlow cX0_newFlow 3 (some .int) ∈ lw_tbl := List.mem_append_right _ (List.mem_append_right _ (List.mem_append_left _ (List.mem_of_getElem? (i := 152) rfl)))
set_option maxRecDepth 100000 in
theorem cm_25 : Cond.code yX11_swap cX11_swap 4 (some .int) ∈ lw_tbl := List.mem_append_right _ (List.mem_append_right _ (List.mem_append_left _ (List.mem_of_getElem? (i := 155) rfl)))
set_option maxRecDepth 100000 in
theorem cm_26 : Cond.code yX11_get cX11_get 2 (some .int) ∈ lw_tbl := List.mem_append_right _ (List.mem_append_right _ (List.mem_append_left _ (List.mem_of_getElem? (i := 158) rfl)))
set_option maxRecDepth 100000 in
theorem cm_27 : Cond.code yX11_set cX11_set 3 none ∈ lw_tbl := List.mem_append_right _ (List.mem_append_right _ (List.mem_append_left _ (List.mem_of_getElem? (i := 161) rfl)))
set_option maxRecDepth 100000 in
theorem cm_28 : Cond.code yX12_rule cX12_rule 5 (some .int) ∈ lw_tbl := List.mem_append_right _ (List.mem_append_right _ (List.mem_append_right _ (List.mem_append_right _ (List.mem_append_right _ (List.mem_append_left _ (List.mem_of_getElem? (i := 72) rfl))))))
set_option maxRecDepth 100000 in
theorem cm_29 : Cond.code yX12_noCylinder cX12_noCylinder 2 (some .boolean) ∈ lw_tbl := List.mem_append_right _ (List.mem_append_right _ (List.mem_append_right _ (List.mem_append_right _ (List.mem_append_right _ (List.mem_append_left _ (List.mem_of_getElem? (i := 76) rfl))))))
set_option maxRecDepth 100000 in
theorem cm_30 : Cond.code yX11_loads cX11_loads 9 (some .int) ∈ lw_tbl := List.mem_append_right _ (List.mem_append_right _ (List.mem_append_left _ (List.mem_of_getElem? (i := 165) rfl)))
set_option maxRecDepth 100000 in
theorem cm_31 : Cond.code yX11_sheetAt cX11_sheetAt 2 (some (.object "OilPush$Sheet")) ∈ lw_tbl := List.mem_append_right _ (List.mem_append_right _ (List.mem_append_left _ (List.mem_of_getElem? (i := 169) rfl)))
set_option maxRecDepth 100000 in
theorem cm_32 : Cond.code yX11_isLane cX11_isLane 1 (some .boolean) ∈ lw_tbl := List.mem_append_right _ (List.mem_append_right _ (List.mem_append_left _ (List.mem_of_getElem? (i := 172) rfl)))
set_option maxRecDepth 100000 in
theorem cm_33 : Cond.code yX6_faultTakenAs cX6_faultTakenAs 2 (some .int) ∈ lw_tbl := List.mem_append_right _ (List.mem_append_right _ (List.mem_append_left _ (List.mem_of_getElem? (i := 176) rfl)))
set_option maxRecDepth 100000 in
theorem cm_34 : Cond.code yX11_faulted cX11_faulted 2 (some .int) ∈ lw_tbl := List.mem_append_right _ (List.mem_append_right _ (List.mem_append_left _ (List.mem_of_getElem? (i := 180) rfl)))
set_option maxRecDepth 100000 in
theorem cm_35 : Cond.code yX6_holds cX6_holds 3 (some .boolean) ∈ lw_tbl := List.mem_append_right _ (List.mem_append_right _ (List.mem_append_left _ (List.mem_of_getElem? (i := 184) rfl)))
set_option maxRecDepth 100000 in
theorem cm_36 : Cond.code yX6_areAllWithin cX6_areAllWithin 5 (some .boolean) ∈ lw_tbl := List.mem_append_right _ (List.mem_append_right _ (List.mem_append_left _ (List.mem_of_getElem? (i := 189) rfl)))
set_option maxRecDepth 100000 in
theorem cm_37 : Cond.code yX0_newLoads cX0_newLoads 5 none ∈ lw_tbl := List.mem_append_right _ (List.mem_append_right _ (List.mem_append_left _ (List.mem_of_getElem? (i := 198) rfl)))
set_option maxRecDepth 100000 in
theorem cm_38 : Cond.code yX12_loads cX12_loads 7 (some .int) ∈ lw_tbl := List.mem_append_right _ (List.mem_append_right _ (List.mem_append_right _ (List.mem_append_right _ (List.mem_append_right _ (List.mem_append_left _ (List.mem_of_getElem? (i := 81) rfl))))))
set_option maxRecDepth 100000 in
theorem cm_39 : Cond.code yX12_noSheet cX12_noSheet 1 (some .boolean) ∈ lw_tbl := List.mem_append_right _ (List.mem_append_right _ (List.mem_append_right _ (List.mem_append_right _ (List.mem_append_right _ (List.mem_append_left _ (List.mem_of_getElem? (i := 14) rfl))))))
set_option maxRecDepth 100000 in
theorem cm_40 : Cond.code yX12_refused cX12_refused 2 (some .int) ∈ lw_tbl := List.mem_append_right _ (List.mem_append_right _ (List.mem_append_right _ (List.mem_append_right _ (List.mem_append_right _ (List.mem_append_left _ (List.mem_of_getElem? (i := 22) rfl))))))
set_option maxRecDepth 100000 in
theorem cm_41 : Cond.code yX12_failed cX12_failed 2 (some .int) ∈ lw_tbl := List.mem_append_right _ (List.mem_append_right _ (List.mem_append_right _ (List.mem_append_right _ (List.mem_append_right _ (List.mem_append_left _ (List.mem_of_getElem? (i := 27) rfl))))))
set_option maxRecDepth 100000 in
theorem cm_42 : Cond.code yX12_isBeyond cX12_isBeyond 3 (some .boolean) ∈ lw_tbl := List.mem_append_right _ (List.mem_append_right _ (List.mem_append_right _ (List.mem_append_right _ (List.mem_append_right _ (List.mem_append_left _ (List.mem_of_getElem? (i := 58) rfl))))))
set_option maxRecDepth 100000 in
theorem cm_43 : Cond.code yX11_valve cX11_valve 3 (some .int) ∈ lw_tbl := List.mem_append_right _ (List.mem_append_right _ (List.mem_append_left _ (List.mem_of_getElem? (i := 204) rfl)))
set_option maxRecDepth 100000 in
theorem cm_44 : Cond.code yX12_valve cX12_valve 4 (some .int) ∈ lw_tbl := List.mem_append_right _ (List.mem_append_right _ (List.mem_append_right _ (List.mem_append_right _ (List.mem_append_right _ (List.mem_append_left _ (List.mem_of_getElem? (i := 87) rfl))))))
set_option maxRecDepth 100000 in
theorem cm_45 : Cond.code yX11_fill cX11_fill 4 (some .int) ∈ lw_tbl := List.mem_append_right _ (List.mem_append_right _ (List.mem_append_left _ (List.mem_of_getElem? (i := 208) rfl)))
set_option maxRecDepth 100000 in
theorem cm_46 : Cond.code yX0_room cX0_room 1 (some .int) ∈ lw_tbl := List.mem_append_right _ (List.mem_append_right _ (List.mem_append_left _ (List.mem_of_getElem? (i := 215) rfl)))
set_option maxRecDepth 100000 in
theorem cm_47 : Cond.code yX12_fill cX12_fill 4 (some .int) ∈ lw_tbl := List.mem_append_right _ (List.mem_append_right _ (List.mem_append_right _ (List.mem_append_right _ (List.mem_append_right _ (List.mem_append_left _ (List.mem_of_getElem? (i := 91) rfl))))))
set_option maxRecDepth 100000 in
theorem cm_48 : Cond.code yX12_room cX12_room 2 (some .int) ∈ lw_tbl := List.mem_append_right _ (List.mem_append_right _ (List.mem_append_right _ (List.mem_append_right _ (List.mem_append_right _ (List.mem_append_left _ (List.mem_of_getElem? (i := 95) rfl))))))
set_option maxRecDepth 100000 in
theorem cm_49 : Cond.code yX11_burst cX11_burst 4 (some .int) ∈ lw_tbl := List.mem_append_right _ (List.mem_append_right _ (List.mem_append_left _ (List.mem_of_getElem? (i := 219) rfl)))
set_option maxRecDepth 100000 in
theorem cm_50 : Cond.code yX12_burst cX12_burst 4 (some .int) ∈ lw_tbl := List.mem_append_right _ (List.mem_append_right _ (List.mem_append_right _ (List.mem_append_right _ (List.mem_append_right _ (List.mem_append_left _ (List.mem_of_getElem? (i := 99) rfl))))))
set_option maxRecDepth 100000 in
theorem cm_51 : Cond.code yX11_store cX11_store 4 (some .int) ∈ lw_tbl := List.mem_append_right _ (List.mem_append_right _ (List.mem_append_left _ (List.mem_of_getElem? (i := 223) rfl)))
set_option maxRecDepth 100000 in
theorem cm_52 : Cond.code yX12_store cX12_store 4 (some .int) ∈ lw_tbl := List.mem_append_right _ (List.mem_append_right _ (List.mem_append_right _ (List.mem_append_right _ (List.mem_append_right _ (List.mem_append_left _ (List.mem_of_getElem? (i := 103) rfl))))))
set_option maxRecDepth 100000 in
theorem cm_53 : Cond.code yX11_about cX11_about 4 (some .int) ∈ lw_tbl := List.mem_append_right _ (List.mem_append_right _ (List.mem_append_left _ (List.mem_of_getElem? (i := 227) rfl)))
set_option maxRecDepth 100000 in
theorem cm_54 : Cond.code yX0_kind cX0_kind 1 (some .int) ∈ lw_tbl := List.mem_append_right _ (List.mem_append_right _ (List.mem_append_left _ (List.mem_of_getElem? (i := 238) rfl)))
set_option maxRecDepth 100000 in
theorem cm_55 : Cond.code yX2_kind cX2_kind 1 (some .int) ∈ lw_tbl := List.mem_append_right _ (List.mem_append_right _ (List.mem_append_left _ (List.mem_of_getElem? (i := 234) rfl)))
set_option maxRecDepth 100000 in
theorem cm_56 : Cond.code yX10_kind cX10_kind 1 (some .int) ∈ lw_tbl := List.mem_append_right _ (List.mem_append_right _ (List.mem_append_left _ (List.mem_of_getElem? (i := 237) rfl)))
set_option maxRecDepth 100000 in
theorem cm_57 : Cond.code yX0_loadAt cX0_loadAt 3 (some .int) ∈ lw_tbl := List.mem_append_right _ (List.mem_append_right _ (List.mem_append_right _ (List.mem_append_left _ (List.mem_of_getElem? (i := 5) rfl))))
set_option maxRecDepth 100000 in
theorem cm_58 : Cond.code Lib.Math.min.name Lib.Math.min.code 2 (some .int) ∈ lw_tbl := List.mem_append_right _ (List.mem_append_right _ (List.mem_append_right _ (List.mem_append_left _ (List.mem_of_getElem? (i := 9) rfl))))
set_option maxRecDepth 100000 in
theorem cm_59 : Cond.code yX0_needAt cX0_needAt 2 (some .int) ∈ lw_tbl := List.mem_append_right _ (List.mem_append_right _ (List.mem_append_right _ (List.mem_append_left _ (List.mem_of_getElem? (i := 16) rfl))))
set_option maxRecDepth 100000 in
theorem cm_60 : Cond.code yX0_pushAgainst cX0_pushAgainst 2 (some .int) ∈ lw_tbl := List.mem_append_right _ (List.mem_append_right _ (List.mem_append_right _ (List.mem_append_left _ (List.mem_of_getElem? (i := 29) rfl))))
set_option maxRecDepth 100000 in
theorem cm_61 : Cond.code yX10_pushAgainst cX10_pushAgainst 2 (some .int) ∈ lw_tbl := List.mem_append_right _ (List.mem_append_right _ (List.mem_append_right _ (List.mem_append_left _ (List.mem_of_getElem? (i := 25) rfl))))
set_option maxRecDepth 100000 in
theorem cm_62 : Cond.code yX12_about cX12_about 3 (some .int) ∈ lw_tbl := List.mem_append_right _ (List.mem_append_right _ (List.mem_append_right _ (List.mem_append_right _ (List.mem_append_right _ (List.mem_append_left _ (List.mem_of_getElem? (i := 108) rfl))))))
set_option maxRecDepth 100000 in
theorem cm_63 : Cond.code yX12_loadOf cX12_loadOf 3 (some .int) ∈ lw_tbl := List.mem_append_right _ (List.mem_append_right _ (List.mem_append_right _ (List.mem_append_right _ (List.mem_append_right _ (List.mem_append_left _ (List.mem_of_getElem? (i := 112) rfl))))))
set_option maxRecDepth 100000 in
theorem cm_64 : Cond.code yX12_lesser cX12_lesser 2 (some .int) ∈ lw_tbl := List.mem_append_right _ (List.mem_append_right _ (List.mem_append_right _ (List.mem_append_right _ (List.mem_append_right _ (List.mem_append_left _ (List.mem_of_getElem? (i := 115) rfl))))))
set_option maxRecDepth 100000 in
theorem cm_65 : Cond.code yX12_needOf cX12_needOf 3 (some .int) ∈ lw_tbl := List.mem_append_right _ (List.mem_append_right _ (List.mem_append_right _ (List.mem_append_right _ (List.mem_append_right _ (List.mem_append_left _ (List.mem_of_getElem? (i := 119) rfl))))))
set_option maxRecDepth 100000 in
theorem cm_66 : Cond.code yX11_tick cX11_tick 3 (some .int) ∈ lw_tbl := List.mem_append_right _ (List.mem_append_right _ (List.mem_append_right _ (List.mem_append_left _ (List.mem_of_getElem? (i := 33) rfl))))
set_option maxRecDepth 100000 in
theorem cm_67 : Cond.code yX3_obey cX3_obey 5 none ∈ lw_tbl := List.mem_append_right _ (List.mem_append_right _ (List.mem_append_right _ (List.mem_append_left _ (List.mem_of_getElem? (i := 37) rfl))))
set_option maxRecDepth 100000 in
theorem cm_68 : Cond.code yX0_isAt cX0_isAt 3 (some .boolean) ∈ lw_tbl := List.mem_append_right _ (List.mem_append_right _ (List.mem_append_right _ (List.mem_append_left _ (List.mem_of_getElem? (i := 46) rfl))))
set_option maxRecDepth 100000 in
theorem cm_69 : Cond.code yX1_run cX1_run 6 none ∈ lw_tbl := List.mem_append_right _ (List.mem_append_right _ (List.mem_append_right _ (List.mem_append_left _ (List.mem_of_getElem? (i := 51) rfl))))
set_option maxRecDepth 100000 in
theorem cm_70 : Cond.code Lib.Math.max.name Lib.Math.max.code 2 (some .int) ∈ lw_tbl := List.mem_append_right _ (List.mem_append_right _ (List.mem_append_right _ (List.mem_append_left _ (List.mem_of_getElem? (i := 86) rfl))))
set_option maxRecDepth 100000 in
theorem cm_71 : Cond.code yX1_drain cX1_drain 6 (some .int) ∈ lw_tbl := List.mem_append_right _ (List.mem_append_right _ (List.mem_append_right _ (List.mem_append_left _ (List.mem_of_getElem? (i := 56) rfl))))
set_option maxRecDepth 100000 in
theorem cm_72 : Cond.code yX1_mostLost cX1_mostLost 7 (some .int) ∈ lw_tbl := List.mem_append_right _ (List.mem_append_right _ (List.mem_append_right _ (List.mem_append_left _ (List.mem_of_getElem? (i := 61) rfl))))
set_option maxRecDepth 100000 in
theorem cm_73 : Cond.code yX1_lineUp cX1_lineUp 6 none ∈ lw_tbl := List.mem_append_right _ (List.mem_append_right _ (List.mem_append_right _ (List.mem_append_left _ (List.mem_of_getElem? (i := 69) rfl))))
set_option maxRecDepth 100000 in
theorem cm_74 : Cond.code yX1_queue cX1_queue 3 none ∈ lw_tbl := List.mem_append_right _ (List.mem_append_right _ (List.mem_append_right _ (List.mem_append_left _ (List.mem_of_getElem? (i := 75) rfl))))
set_option maxRecDepth 100000 in
theorem cm_75 : Cond.code yX1_takeFromPump cX1_takeFromPump 7 (some .int) ∈ lw_tbl := List.mem_append_right _ (List.mem_append_right _ (List.mem_append_right _ (List.mem_append_left _ (List.mem_of_getElem? (i := 79) rfl))))
set_option maxRecDepth 100000 in
theorem cm_76 : Cond.code yX1_give cX1_give 4 none ∈ lw_tbl := List.mem_append_right _ (List.mem_append_right _ (List.mem_append_right _ (List.mem_append_left _ (List.mem_of_getElem? (i := 83) rfl))))
set_option maxRecDepth 100000 in
theorem cm_77 : Cond.code yX8_pressure cX8_pressure 1 (some .int) ∈ lw_tbl := List.mem_append_right _ (List.mem_append_right _ (List.mem_append_right _ (List.mem_append_left _ (List.mem_of_getElem? (i := 90) rfl))))
set_option maxRecDepth 100000 in
theorem cm_78 : Cond.code yX1_addUp cX1_addUp 7 none ∈ lw_tbl := List.mem_append_right _ (List.mem_append_right _ (List.mem_append_right _ (List.mem_append_left _ (List.mem_of_getElem? (i := 94) rfl))))
set_option maxRecDepth 100000 in
theorem cm_79 : Cond.code yX1_takeFromStore cX1_takeFromStore 5 none ∈ lw_tbl := List.mem_append_right _ (List.mem_append_right _ (List.mem_append_right _ (List.mem_append_left _ (List.mem_of_getElem? (i := 98) rfl))))
set_option maxRecDepth 100000 in
theorem cm_80 : Cond.code yX12_tick cX12_tick 3 (some .int) ∈ lw_tbl := List.mem_append_right _ (List.mem_append_right _ (List.mem_append_right _ (List.mem_append_right _ (List.mem_append_right _ (List.mem_append_left _ (List.mem_of_getElem? (i := 131) rfl))))))
set_option maxRecDepth 100000 in
theorem cm_81 : Cond.code yX12_tickOnce cX12_tickOnce 7 none ∈ lw_tbl := List.mem_append_right _ (List.mem_append_right _ (List.mem_append_right _ (List.mem_append_right _ (List.mem_append_right _ (List.mem_append_left _ (List.mem_of_getElem? (i := 137) rfl))))))
set_option maxRecDepth 100000 in
theorem cm_82 : Cond.code yX12_mayBeDone cX12_mayBeDone 3 (some .boolean) ∈ lw_tbl := List.mem_append_right _ (List.mem_append_right _ (List.mem_append_right _ (List.mem_append_right _ (List.mem_append_right _ (List.mem_append_left _ (List.mem_of_getElem? (i := 141) rfl))))))
set_option maxRecDepth 100000 in
theorem cm_83 : Cond.code yX12_loseAll cX12_loseAll 2 none ∈ lw_tbl := List.mem_append_right _ (List.mem_append_right _ (List.mem_append_right _ (List.mem_append_right _ (List.mem_append_right _ (List.mem_append_left _ (List.mem_of_getElem? (i := 145) rfl))))))
set_option maxRecDepth 100000 in
theorem cm_84 : Cond.code yX12_loseFrom cX12_loseFrom 4 none ∈ lw_tbl := List.mem_append_right _ (List.mem_append_right _ (List.mem_append_right _ (List.mem_append_right _ (List.mem_append_right _ (List.mem_append_left _ (List.mem_of_getElem? (i := 149) rfl))))))
set_option maxRecDepth 100000 in
theorem cm_85 : Cond.code yX12_findMoving cX12_findMoving 3 none ∈ lw_tbl := List.mem_append_right _ (List.mem_append_right _ (List.mem_append_right _ (List.mem_append_right _ (List.mem_append_right _ (List.mem_append_left _ (List.mem_of_getElem? (i := 153) rfl))))))
set_option maxRecDepth 100000 in
theorem cm_86 : Cond.code yX12_storePressure cX12_storePressure 1 (some .int) ∈ lw_tbl := List.mem_append_right _ (List.mem_append_right _ (List.mem_append_right _ (List.mem_append_right _ (List.mem_append_right _ (List.mem_append_left _ (List.mem_of_getElem? (i := 157) rfl))))))
set_option maxRecDepth 100000 in
theorem cm_87 : Cond.code yX11_gauge cX11_gauge 2 (some .int) ∈ lw_tbl := List.mem_append_right _ (List.mem_append_right _ (List.mem_append_right _ (List.mem_append_left _ (List.mem_of_getElem? (i := 102) rfl))))
set_option maxRecDepth 100000 in
theorem cm_88 : Cond.code yX12_gauge cX12_gauge 2 (some .int) ∈ lw_tbl := List.mem_append_right _ (List.mem_append_right _ (List.mem_append_right _ (List.mem_append_right _ (List.mem_append_right _ (List.mem_append_left _ (List.mem_of_getElem? (i := 161) rfl))))))
set_option maxRecDepth 100000 in
theorem cm_89 : Cond.code yX11_mover cX11_mover 2 (some .int) ∈ lw_tbl := List.mem_append_right _ (List.mem_append_right _ (List.mem_append_right _ (List.mem_append_left _ (List.mem_of_getElem? (i := 106) rfl))))
set_option maxRecDepth 100000 in
theorem cm_90 : Cond.code yX12_mover cX12_mover 2 (some .int) ∈ lw_tbl := List.mem_append_right _ (List.mem_append_right _ (List.mem_append_right _ (List.mem_append_right _ (List.mem_append_right _ (List.mem_append_left _ (List.mem_of_getElem? (i := 165) rfl))))))
set_option maxRecDepth 100000 in
theorem cm_91 : Cond.code yX11_sum cX11_sum 2 (some .long) ∈ lw_tbl := List.mem_append_right _ (List.mem_append_right _ (List.mem_append_right _ (List.mem_append_left _ (List.mem_of_getElem? (i := 110) rfl))))
set_option maxRecDepth 100000 in
theorem cm_92 : Cond.code yX12_sum cX12_sum 2 (some .long) ∈ lw_tbl := List.mem_append_right _ (List.mem_append_right _ (List.mem_append_right _ (List.mem_append_right _ (List.mem_append_right _ (List.mem_append_left _ (List.mem_of_getElem? (i := 169) rfl))))))
set_option maxRecDepth 100000 in
theorem cm_93 : Cond.code yX12_lost cX12_lost 0 (some .long) ∈ lw_tbl := List.mem_append_right _ (List.mem_append_right _ (List.mem_append_right _ (List.mem_append_right _ (List.mem_append_right _ (List.mem_append_left _ (List.mem_of_getElem? (i := 46) rfl))))))
set_option maxRecDepth 100000 in
theorem cm_94 : Cond.code yX11_order cX11_order 5 (some .int) ∈ lw_tbl := List.mem_append_right _ (List.mem_append_right _ (List.mem_append_right _ (List.mem_append_left _ (List.mem_of_getElem? (i := 116) rfl))))
set_option maxRecDepth 100000 in
theorem cm_95 : Cond.code yX3_add cX3_add 5 (some .boolean) ∈ lw_tbl := List.mem_append_right _ (List.mem_append_right _ (List.mem_append_right _ (List.mem_append_left _ (List.mem_of_getElem? (i := 120) rfl))))
set_option maxRecDepth 100000 in
theorem cm_96 : Cond.code yX12_order cX12_order 5 (some .int) ∈ lw_tbl := List.mem_append_right _ (List.mem_append_right _ (List.mem_append_right _ (List.mem_append_right _ (List.mem_append_right _ (List.mem_append_left _ (List.mem_of_getElem? (i := 123) rfl))))))
set_option maxRecDepth 100000 in
theorem cm_97 : Cond.code yX11_waits cX11_waits 1 (some .int) ∈ lw_tbl := List.mem_append_right _ (List.mem_append_right _ (List.mem_append_right _ (List.mem_append_left _ (List.mem_of_getElem? (i := 124) rfl))))
set_option maxRecDepth 100000 in
theorem cm_98 : Cond.code yX12_waits cX12_waits 1 (some .int) ∈ lw_tbl := List.mem_append_right _ (List.mem_append_right _ (List.mem_append_right _ (List.mem_append_right _ (List.mem_append_right _ (List.mem_append_left _ (List.mem_of_getElem? (i := 127) rfl))))))
set_option maxRecDepth 100000 in
theorem cm_99 : Cond.code yX11_start cX11_start 1 (some .int) ∈ lw_tbl := List.mem_append_right _ (List.mem_append_right _ (List.mem_append_right _ (List.mem_append_left _ (List.mem_of_getElem? (i := 128) rfl))))
set_option maxRecDepth 100000 in
theorem cm_100 : Cond.code yX7_become cX7_become 3 none ∈ lw_tbl := List.mem_append_right _ (List.mem_append_right _ (List.mem_append_right _ (List.mem_append_left _ (List.mem_of_getElem? (i := 132) rfl))))
set_option maxRecDepth 100000 in
theorem cm_101 : Cond.code yX8_become cX8_become 2 none ∈ lw_tbl := List.mem_append_right _ (List.mem_append_right _ (List.mem_append_right _ (List.mem_append_left _ (List.mem_of_getElem? (i := 138) rfl))))
set_option maxRecDepth 100000 in
theorem cm_102 : Cond.code yX12_start cX12_start 2 (some .int) ∈ lw_tbl := List.mem_append_right _ (List.mem_append_right _ (List.mem_append_right _ (List.mem_append_right _ (List.mem_append_right _ (List.mem_append_left _ (List.mem_of_getElem? (i := 173) rfl))))))
set_option maxRecDepth 100000 in
theorem cm_103 : Cond.code yX11_reading cX11_reading 5 (some .int) ∈ lw_tbl := List.mem_append_right _ (List.mem_append_right _ (List.mem_append_right _ (List.mem_append_left _ (List.mem_of_getElem? (i := 142) rfl))))
set_option maxRecDepth 100000 in
theorem cm_104 : Cond.code yX5_add cX5_add 4 (some .boolean) ∈ lw_tbl := List.mem_append_right _ (List.mem_append_right _ (List.mem_append_right _ (List.mem_append_left _ (List.mem_of_getElem? (i := 146) rfl))))
set_option maxRecDepth 100000 in
theorem cm_105 : Cond.code yX12_reading cX12_reading 4 (some .int) ∈ lw_tbl := List.mem_append_right _ (List.mem_append_right _ (List.mem_append_right _ (List.mem_append_right _ (List.mem_append_right _ (List.mem_append_left _ (List.mem_of_getElem? (i := 177) rfl))))))
set_option maxRecDepth 100000 in
theorem cm_106 : Cond.code yX11_forget cX11_forget 2 (some .int) ∈ lw_tbl := List.mem_append_right _ (List.mem_append_right _ (List.mem_append_right _ (List.mem_append_left _ (List.mem_of_getElem? (i := 151) rfl))))
set_option maxRecDepth 100000 in
theorem cm_107 : Cond.code yX12_forget cX12_forget 2 (some .int) ∈ lw_tbl := List.mem_append_right _ (List.mem_append_right _ (List.mem_append_right _ (List.mem_append_right _ (List.mem_append_right _ (List.mem_append_left _ (List.mem_of_getElem? (i := 181) rfl))))))
set_option maxRecDepth 100000 in
theorem cm_108 : Cond.code yX11_leak cX11_leak 4 (some .int) ∈ lw_tbl := List.mem_append_right _ (List.mem_append_right _ (List.mem_append_right _ (List.mem_append_left _ (List.mem_of_getElem? (i := 155) rfl))))
set_option maxRecDepth 100000 in
theorem cm_109 : Cond.code yX5_latest cX5_latest 3 (some .int) ∈ lw_tbl := List.mem_append_right _ (List.mem_append_right _ (List.mem_append_right _ (List.mem_append_left _ (List.mem_of_getElem? (i := 159) rfl))))
set_option maxRecDepth 100000 in
theorem cm_110 : Cond.code yX4_isHeld cX4_isHeld 2 (some .boolean) ∈ lw_tbl := List.mem_append_right _ (List.mem_append_right _ (List.mem_append_right _ (List.mem_append_left _ (List.mem_of_getElem? (i := 165) rfl))))
set_option maxRecDepth 100000 in
theorem cm_111 : Cond.code yX11_wouldTellAll cX11_wouldTellAll 6 (some .boolean) ∈ lw_tbl := List.mem_append_right _ (List.mem_append_right _ (List.mem_append_right _ (List.mem_append_left _ (List.mem_of_getElem? (i := 170) rfl))))
set_option maxRecDepth 100000 in
theorem cm_112 : Cond.code yX5_areToldAt cX5_areToldAt 4 (some .boolean) ∈ lw_tbl := List.mem_append_right _ (List.mem_append_right _ (List.mem_append_right _ (List.mem_append_left _ (List.mem_of_getElem? (i := 174) rfl))))
set_option maxRecDepth 100000 in
theorem cm_113 : Cond.code yX12_leak cX12_leak 5 (some .int) ∈ lw_tbl := List.mem_append_right _ (List.mem_append_right _ (List.mem_append_right _ (List.mem_append_right _ (List.mem_append_right _ (List.mem_append_left _ (List.mem_of_getElem? (i := 185) rfl))))))
set_option maxRecDepth 100000 in
theorem cm_114 : Cond.code yX12_lastReading cX12_lastReading 3 (some .int) ∈ lw_tbl := List.mem_append_right _ (List.mem_append_right _ (List.mem_append_right _ (List.mem_append_right _ (List.mem_append_right _ (List.mem_append_left _ (List.mem_of_getElem? (i := 189) rfl))))))
set_option maxRecDepth 100000 in
theorem cm_115 : Cond.code yX12_putAside cX12_putAside 2 none ∈ lw_tbl := List.mem_append_right _ (List.mem_append_right _ (List.mem_append_right _ (List.mem_append_right _ (List.mem_append_right _ (List.mem_append_left _ (List.mem_of_getElem? (i := 193) rfl))))))
set_option maxRecDepth 100000 in
theorem cm_116 : Cond.code yX12_tellsAll cX12_tellsAll 5 (some .boolean) ∈ lw_tbl := List.mem_append_right _ (List.mem_append_right _ (List.mem_append_right _ (List.mem_append_right _ (List.mem_append_right _ (List.mem_append_left _ (List.mem_of_getElem? (i := 197) rfl))))))
set_option maxRecDepth 100000 in
theorem cm_117 : Cond.code yX12_tells cX12_tells 4 (some .boolean) ∈ lw_tbl := List.mem_append_right _ (List.mem_append_right _ (List.mem_append_right _ (List.mem_append_right _ (List.mem_append_right _ (List.mem_append_left _ (List.mem_of_getElem? (i := 201) rfl))))))
set_option maxRecDepth 100000 in
theorem cm_118 : Cond.code yX12_putBack cX12_putBack 2 none ∈ lw_tbl := List.mem_append_right _ (List.mem_append_right _ (List.mem_append_right _ (List.mem_append_right _ (List.mem_append_right _ (List.mem_append_left _ (List.mem_of_getElem? (i := 205) rfl))))))
set_option maxRecDepth 100000 in
theorem cm_119 : Cond.code yX11_sheet cX11_sheet 5 (some .int) ∈ lw_tbl := List.mem_append_right _ (List.mem_append_right _ (List.mem_append_right _ (List.mem_append_left _ (List.mem_of_getElem? (i := 178) rfl))))
set_option maxRecDepth 100000 in
theorem cm_120 : Cond.code yX6_renew cX6_renew 3 none ∈ lw_tbl := List.mem_append_right _ (List.mem_append_right _ (List.mem_append_right _ (List.mem_append_left _ (List.mem_of_getElem? (i := 182) rfl))))
set_option maxRecDepth 100000 in
theorem cm_121 : Cond.code yJ7_fill_53178 cJ7_fill_53178 4 none ∈ lw_tbl := List.mem_append_right _ (List.mem_append_right _ (List.mem_append_right _ (List.mem_append_left _ (List.mem_of_getElem? (i := 185) rfl))))
set_option maxRecDepth 100000 in
theorem cm_122 : Cond.code yX12_sheet cX12_sheet 5 (some .int) ∈ lw_tbl := List.mem_append_right _ (List.mem_append_right _ (List.mem_append_right _ (List.mem_append_right _ (List.mem_append_right _ (List.mem_append_left _ (List.mem_of_getElem? (i := 11) rfl))))))
set_option maxRecDepth 100000 in
theorem cm_123 : Cond.code yX11_lose cX11_lose 4 (some .int) ∈ lw_tbl := List.mem_append_right _ (List.mem_append_right _ (List.mem_append_right _ (List.mem_append_left _ (List.mem_of_getElem? (i := 190) rfl))))
set_option maxRecDepth 100000 in
theorem cm_124 : Cond.code yX12_lose cX12_lose 3 (some .int) ∈ lw_tbl := List.mem_append_right _ (List.mem_append_right _ (List.mem_append_right _ (List.mem_append_right _ (List.mem_append_right _ (List.mem_append_left _ (List.mem_of_getElem? (i := 31) rfl))))))
set_option maxRecDepth 100000 in
theorem cm_125 : Cond.code yX11_put cX11_put 5 (some .int) ∈ lw_tbl := List.mem_append_right _ (List.mem_append_right _ (List.mem_append_right _ (List.mem_append_left _ (List.mem_of_getElem? (i := 194) rfl))))
set_option maxRecDepth 100000 in
theorem cm_126 : Cond.code yX6_write cX6_write 3 none ∈ lw_tbl := List.mem_append_right _ (List.mem_append_right _ (List.mem_append_right _ (List.mem_append_left _ (List.mem_of_getElem? (i := 198) rfl))))
set_option maxRecDepth 100000 in
theorem cm_127 : Cond.code yX12_put cX12_put 4 (some .int) ∈ lw_tbl := List.mem_append_right _ (List.mem_append_right _ (List.mem_append_right _ (List.mem_append_right _ (List.mem_append_right _ (List.mem_append_left _ (List.mem_of_getElem? (i := 35) rfl))))))
set_option maxRecDepth 100000 in
theorem cm_128 : Cond.code yX12_noCell cX12_noCell 3 (some .int) ∈ lw_tbl := List.mem_append_right _ (List.mem_append_right _ (List.mem_append_right _ (List.mem_append_right _ (List.mem_append_right _ (List.mem_append_left _ (List.mem_of_getElem? (i := 39) rfl))))))
set_option maxRecDepth 100000 in
theorem cm_129 : Cond.code yX11_cell cX11_cell 5 (some .long) ∈ lw_tbl := List.mem_append_right _ (List.mem_append_right _ (List.mem_append_right _ (List.mem_append_left _ (List.mem_of_getElem? (i := 203) rfl))))
set_option maxRecDepth 100000 in
theorem cm_130 : Cond.code yX12_cell cX12_cell 4 (some .long) ∈ lw_tbl := List.mem_append_right _ (List.mem_append_right _ (List.mem_append_right _ (List.mem_append_right _ (List.mem_append_right _ (List.mem_append_left _ (List.mem_of_getElem? (i := 43) rfl))))))
set_option maxRecDepth 100000 in
theorem cm_131 : Cond.code yX12_failedLong cX12_failedLong 2 (some .long) ∈ lw_tbl := List.mem_append_right _ (List.mem_append_right _ (List.mem_append_right _ (List.mem_append_right _ (List.mem_append_right _ (List.mem_append_left _ (List.mem_of_getElem? (i := 51) rfl))))))
set_option maxRecDepth 100000 in
theorem cm_132 : Cond.code yX11_copy cX11_copy 8 (some .int) ∈ lw_tbl := List.mem_append_right _ (List.mem_append_right _ (List.mem_append_right _ (List.mem_append_left _ (List.mem_of_getElem? (i := 207) rfl))))
set_option maxRecDepth 100000 in
theorem cm_133 : Cond.code yX12_copy cX12_copy 7 (some .int) ∈ lw_tbl := List.mem_append_right _ (List.mem_append_right _ (List.mem_append_right _ (List.mem_append_right _ (List.mem_append_right _ (List.mem_append_left _ (List.mem_of_getElem? (i := 55) rfl))))))
set_option maxRecDepth 100000 in
theorem cm_134 : Cond.code yX11_tell cX11_tell 3 (some .int) ∈ lw_tbl := List.mem_append_right _ (List.mem_append_right _ (List.mem_append_right _ (List.mem_append_left _ (List.mem_of_getElem? (i := 214) rfl))))
set_option maxRecDepth 100000 in
theorem cm_135 : Cond.code yX0_toldBy cX0_toldBy 3 (some .int) ∈ lw_tbl := List.mem_append_right _ (List.mem_append_right _ (List.mem_append_right _ (List.mem_append_right _ (List.mem_append_left _ (List.mem_of_getElem? (i := 2) rfl)))))
set_option maxRecDepth 100000 in
theorem cm_136 : Cond.code yX0_plainlyTold cX0_plainlyTold 3 (some .int) ∈ lw_tbl := List.mem_append_right _ (List.mem_append_right _ (List.mem_append_right _ (List.mem_append_left _ (List.mem_of_getElem? (i := 232) rfl))))
set_option maxRecDepth 100000 in
theorem cm_137 : Cond.code yX9_leave cX9_leave 2 none ∈ lw_tbl := List.mem_append_right _ (List.mem_append_right _ (List.mem_append_right _ (List.mem_append_left _ (List.mem_of_getElem? (i := 225) rfl))))
set_option maxRecDepth 100000 in
theorem cm_138 : Cond.code yX2_toldBy cX2_toldBy 3 (some .int) ∈ lw_tbl := List.mem_append_right _ (List.mem_append_right _ (List.mem_append_right _ (List.mem_append_left _ (List.mem_of_getElem? (i := 221) rfl))))
set_option maxRecDepth 100000 in
theorem cm_139 : Cond.code yX10_toldBy cX10_toldBy 3 (some .int) ∈ lw_tbl := List.mem_append_right _ (List.mem_append_right _ (List.mem_append_right _ (List.mem_append_left _ (List.mem_of_getElem? (i := 237) rfl))))
set_option maxRecDepth 100000 in
theorem cm_140 : Cond.code yX12_tell cX12_tell 2 (some .int) ∈ lw_tbl := List.mem_append_right _ (List.mem_append_right _ (List.mem_append_right _ (List.mem_append_right _ (List.mem_append_right _ (List.mem_append_left _ (List.mem_of_getElem? (i := 209) rfl))))))
set_option maxRecDepth 100000 in
theorem cm_141 : Cond.code yX12_traced cX12_traced 2 none ∈ lw_tbl := List.mem_append_right _ (List.mem_append_right _ (List.mem_append_right _ (List.mem_append_right _ (List.mem_append_right _ (List.mem_append_left _ (List.mem_of_getElem? (i := 213) rfl))))))
set_option maxRecDepth 100000 in
theorem cm_142 : Cond.code yX11_look cX11_look 3 (some .int) ∈ lw_tbl := List.mem_append_right _ (List.mem_append_right _ (List.mem_append_right _ (List.mem_append_right _ (List.mem_append_left _ (List.mem_of_getElem? (i := 7) rfl)))))
set_option maxRecDepth 100000 in
theorem cm_143 : Cond.code yX0_seenBy cX0_seenBy 2 (some .int) ∈ lw_tbl := List.mem_append_right _ (List.mem_append_right _ (List.mem_append_right _ (List.mem_append_right _ (List.mem_append_left _ (List.mem_of_getElem? (i := 16) rfl)))))
set_option maxRecDepth 100000 in
theorem cm_144 : Cond.code yX10_seenBy cX10_seenBy 2 (some .int) ∈ lw_tbl := List.mem_append_right _ (List.mem_append_right _ (List.mem_append_right _ (List.mem_append_right _ (List.mem_append_left _ (List.mem_of_getElem? (i := 15) rfl)))))
set_option maxRecDepth 100000 in
theorem cm_145 : Cond.code yX12_look cX12_look 2 (some .int) ∈ lw_tbl := List.mem_append_right _ (List.mem_append_right _ (List.mem_append_right _ (List.mem_append_right _ (List.mem_append_right _ (List.mem_append_left _ (List.mem_of_getElem? (i := 218) rfl))))))
set_option maxRecDepth 100000 in
theorem cm_146 : Cond.code yX11_as cX11_as 5 (some .int) ∈ lw_tbl := List.mem_append_right _ (List.mem_append_right _ (List.mem_append_right _ (List.mem_append_right _ (List.mem_append_left _ (List.mem_of_getElem? (i := 20) rfl)))))
set_option maxRecDepth 100000 in
theorem cm_147 : Cond.code yX12_as cX12_as 3 (some .int) ∈ lw_tbl := List.mem_append_right _ (List.mem_append_right _ (List.mem_append_right _ (List.mem_append_right _ (List.mem_append_right _ (List.mem_append_left _ (List.mem_of_getElem? (i := 222) rfl))))))
set_option maxRecDepth 100000 in
theorem cm_148 : Cond.code yX11_trace cX11_trace 1 (some .int) ∈ lw_tbl := List.mem_append_right _ (List.mem_append_right _ (List.mem_append_right _ (List.mem_append_right _ (List.mem_append_left _ (List.mem_of_getElem? (i := 26) rfl)))))
set_option maxRecDepth 100000 in
theorem cm_149 : Cond.code yX12_trace cX12_trace 1 (some .int) ∈ lw_tbl := List.mem_append_right _ (List.mem_append_right _ (List.mem_append_right _ (List.mem_append_right _ (List.mem_append_right _ (List.mem_append_left _ (List.mem_of_getElem? (i := 226) rfl))))))
set_option maxRecDepth 100000 in
theorem cm_150 : Cond.code yX11_fault cX11_fault 1 (some .int) ∈ lw_tbl := List.mem_append_right _ (List.mem_append_right _ (List.mem_append_right _ (List.mem_append_right _ (List.mem_append_left _ (List.mem_of_getElem? (i := 30) rfl)))))
set_option maxRecDepth 100000 in
theorem cm_151 : Cond.code yX12_fault cX12_fault 1 (some .int) ∈ lw_tbl := List.mem_append_right _ (List.mem_append_right _ (List.mem_append_right _ (List.mem_append_right _ (List.mem_append_right _ (List.mem_append_left _ (List.mem_of_getElem? (i := 230) rfl))))))
set_option maxRecDepth 100000 in
theorem cm_152 : Cond.code yX11_told cX11_told 2 (some .int) ∈ lw_tbl := List.mem_append_right _ (List.mem_append_right _ (List.mem_append_right _ (List.mem_append_right _ (List.mem_append_left _ (List.mem_of_getElem? (i := 34) rfl)))))
set_option maxRecDepth 100000 in
theorem cm_153 : Cond.code yX4_howManyAt cX4_howManyAt 6 (some .int) ∈ lw_tbl := List.mem_append_right _ (List.mem_append_right _ (List.mem_append_right _ (List.mem_append_right _ (List.mem_append_left _ (List.mem_of_getElem? (i := 38) rfl)))))
set_option maxRecDepth 100000 in
theorem cm_154 : Cond.code yX12_told cX12_told 4 (some .int) ∈ lw_tbl := List.mem_append_right _ (List.mem_append_right _ (List.mem_append_right _ (List.mem_append_right _ (List.mem_append_right _ (List.mem_append_left _ (List.mem_of_getElem? (i := 234) rfl))))))
set_option maxRecDepth 100000 in
theorem in_wsL_law_r1 : ∀ w ∈ wsL_law_r1, w ∈ lw_tbl := mem_rc _ [48, 49, 32, 792, 793, 41, 50, 51, 53, 54, 56, 57, 33, 280, 87, 88, 34, 281, 148, 149, 36, 282] (by decide +kernel) (mem_cc (cs := [Cond.code yX11_init cX11_init 2 none, Cond.code objectInit ⟨#[0xb1]⟩ 1 none]) rfl (List.forall_mem_cons.mpr ⟨cm_0, List.forall_mem_cons.mpr ⟨cm_1, fun _ h => absurd h List.not_mem_nil⟩⟩))
set_option maxRecDepth 100000 in
theorem in_wsL_law_r2 : ∀ w ∈ wsL_law_r2, w ∈ lw_tbl := mem_rc _ [203, 204, 37, 283, 284, 285, 286, 86, 287, 226, 227, 38, 288, 246, 289, 248, 249, 39, 290, 259, 40, 59, 61] (by decide +kernel) (mem_cc (cs := [Cond.code yX4_init cX4_init 1 none]) rfl (List.forall_mem_cons.mpr ⟨cm_2, fun _ h => absurd h List.not_mem_nil⟩))
set_option maxRecDepth 100000 in
theorem in_wsL_law_r3 : ∀ w ∈ wsL_law_r3, w ∈ lw_tbl := mem_rc _ [66, 62, 69, 73, 90, 92, 118, 124, 128, 93, 94, 35, 131, 96, 98, 104, 151, 153, 154, 156, 158] (by decide +kernel) (mem_cc (cs := [Cond.code yX7_init cX7_init 1 none, Cond.code yX8_init cX8_init 1 none, Cond.code yX1_init cX1_init 1 none]) rfl (List.forall_mem_cons.mpr ⟨cm_3, List.forall_mem_cons.mpr ⟨cm_4, List.forall_mem_cons.mpr ⟨cm_5, fun _ h => absurd h List.not_mem_nil⟩⟩⟩))
set_option maxRecDepth 100000 in
theorem in_wsL_law_r4 : ∀ w ∈ wsL_law_r4, w ∈ lw_tbl := mem_rc _ [159, 160, 206, 208, 209, 210, 211, 212, 229, 231, 232, 233, 234, 251, 253, 261, 263, 264, 794, 795] (by decide +kernel) (mem_cc (cs := [Cond.code yX3_init cX3_init 1 none, Cond.code yX5_init cX5_init 1 none, Cond.code yX9_init cX9_init 1 none, Cond.code yX6_init cX6_init 1 none]) rfl (List.forall_mem_cons.mpr ⟨cm_6, List.forall_mem_cons.mpr ⟨cm_7, List.forall_mem_cons.mpr ⟨cm_8, List.forall_mem_cons.mpr ⟨cm_9, fun _ h => absurd h List.not_mem_nil⟩⟩⟩⟩))
set_option maxRecDepth 100000 in
theorem in_wsL_law_r5 : ∀ w ∈ wsL_law_r5, w ∈ lw_tbl := mem_rc _ [797, 799, 800, 801, 802, 806, 807, 808, 809, 810, 811, 812, 813, 814, 815, 997, 816, 817, 823, 824, 825, 826, 834] (by decide +kernel) (mem_cc (cs := [Cond.code yX12_init cX12_init 2 none]) rfl (List.forall_mem_cons.mpr ⟨cm_10, fun _ h => absurd h List.not_mem_nil⟩))
set_option maxRecDepth 100000 in
theorem in_wsL_law_r6 : ∀ w ∈ wsL_law_r6, w ∈ lw_tbl := mem_rc _ [839, 840, 841, 842, 845, 846, 847, 851, 852, 853, 854, 855, 856, 857, 858, 859, 860, 998, 861, 804, 820, 828, 326, 327] (by decide +kernel) (mem_cc (cs := []) rfl (fun _ h => absurd h List.not_mem_nil))
set_option maxRecDepth 100000 in
theorem in_wsL_law_r7 : ∀ w ∈ wsL_law_r7, w ∈ lw_tbl := mem_rc _ [328, 64, 67, 330, 331, 1050, 1051, 1052, 1054, 803, 1007, 1008, 333, 334, 335, 71, 337, 338, 339] (by decide +kernel) (mem_cc (cs := [Cond.code yX11_pump cX11_pump 4 (some .int), Cond.code yX11_within cX11_within 3 (some .boolean), Cond.code yX12_pump cX12_pump 4 (some .int), Cond.code yX12_in cX12_in 6 (some .boolean), Cond.code yX11_cylinder cX11_cylinder 4 (some .int)]) rfl (List.forall_mem_cons.mpr ⟨cm_11, List.forall_mem_cons.mpr ⟨cm_12, List.forall_mem_cons.mpr ⟨cm_13, List.forall_mem_cons.mpr ⟨cm_14, List.forall_mem_cons.mpr ⟨cm_15, fun _ h => absurd h List.not_mem_nil⟩⟩⟩⟩⟩))
set_option maxRecDepth 100000 in
theorem in_wsL_law_r8 : ∀ w ∈ wsL_law_r8, w ∈ lw_tbl := mem_rc _ [70, 341, 42, 374, 375, 43, 388, 389, 44, 342, 343, 345, 353, 354, 357, 346, 349, 351, 376, 377, 379] (by decide +kernel) (mem_cc (cs := [Cond.code yX4_add cX4_add 4 (some .boolean), Cond.code yX0_init cX0_init 4 none, Cond.code yX2_init cX2_init 4 none]) rfl (List.forall_mem_cons.mpr ⟨cm_16, List.forall_mem_cons.mpr ⟨cm_17, List.forall_mem_cons.mpr ⟨cm_18, fun _ h => absurd h List.not_mem_nil⟩⟩⟩))
set_option maxRecDepth 100000 in
theorem in_wsL_law_r9 : ∀ w ∈ wsL_law_r9, w ∈ lw_tbl := mem_rc _ [390, 391, 393, 1055, 1056, 1057, 1014, 1059, 805, 402, 403, 404, 74, 406, 407, 408, 410, 411, 412] (by decide +kernel) (mem_cc (cs := [Cond.code yX10_init cX10_init 4 none, Cond.code yX12_cylinder cX12_cylinder 4 (some .int), Cond.code yX11_rule cX11_rule 5 (some .int), Cond.code yX4_at cX4_at 2 (some (.object "OilPush$Cylinder")), Cond.code yX0_newCrack cX0_newCrack 3 (some .int)]) rfl (List.forall_mem_cons.mpr ⟨cm_19, List.forall_mem_cons.mpr ⟨cm_20, List.forall_mem_cons.mpr ⟨cm_21, List.forall_mem_cons.mpr ⟨cm_22, List.forall_mem_cons.mpr ⟨cm_23, fun _ h => absurd h List.not_mem_nil⟩⟩⟩⟩⟩))
set_option maxRecDepth 100000 in
theorem in_wsL_law_r10 : ∀ w ∈ wsL_law_r10, w ∈ lw_tbl := mem_rc _ [356, 410, 413, 414, 415, 417, 418, 419, 417, 420, 421, 422, 424, 425, 427, 428, 430, 431, 1060, 1061] (by decide +kernel) (mem_cc (cs := [Cond.code yX0_newFlow cX0_newFlow 3 (some .int), Cond.code yX11_swap cX11_swap 4 (some .int), Cond.code yX11_get cX11_get 2 (some .int), Cond.code yX11_set cX11_set 3 none]) rfl (List.forall_mem_cons.mpr ⟨cm_24, List.forall_mem_cons.mpr ⟨cm_25, List.forall_mem_cons.mpr ⟨cm_26, List.forall_mem_cons.mpr ⟨cm_27, fun _ h => absurd h List.not_mem_nil⟩⟩⟩⟩))
set_option maxRecDepth 100000 in
theorem in_wsL_law_r11 : ∀ w ∈ wsL_law_r11, w ∈ lw_tbl := mem_rc _ [1062, 1068, 1064, 1066, 15, 433, 434, 435, 291, 456, 265, 437, 439, 0, 441, 442, 444, 445, 446] (by decide +kernel) (mem_cc (cs := [Cond.code yX12_rule cX12_rule 5 (some .int), Cond.code yX12_noCylinder cX12_noCylinder 2 (some .boolean), Cond.code yX11_loads cX11_loads 9 (some .int), Cond.code yX11_sheetAt cX11_sheetAt 2 (some (.object "OilPush$Sheet")), Cond.code yX11_isLane cX11_isLane 1 (some .boolean)]) rfl (List.forall_mem_cons.mpr ⟨cm_28, List.forall_mem_cons.mpr ⟨cm_29, List.forall_mem_cons.mpr ⟨cm_30, List.forall_mem_cons.mpr ⟨cm_31, List.forall_mem_cons.mpr ⟨cm_32, fun _ h => absurd h List.not_mem_nil⟩⟩⟩⟩⟩))
set_option maxRecDepth 100000 in
theorem in_wsL_law_r12 : ∀ w ∈ wsL_law_r12, w ∈ lw_tbl := mem_rc _ [266, 268, 448, 450, 1, 452, 453, 454, 270, 457, 458, 459, 463, 464, 465, 463, 466, 467, 468] (by decide +kernel) (mem_cc (cs := [Cond.code yX6_faultTakenAs cX6_faultTakenAs 2 (some .int), Cond.code yX11_faulted cX11_faulted 2 (some .int), Cond.code yX6_holds cX6_holds 3 (some .boolean), Cond.code yX6_areAllWithin cX6_areAllWithin 5 (some .boolean), Cond.code yX0_newLoads cX0_newLoads 5 none]) rfl (List.forall_mem_cons.mpr ⟨cm_33, List.forall_mem_cons.mpr ⟨cm_34, List.forall_mem_cons.mpr ⟨cm_35, List.forall_mem_cons.mpr ⟨cm_36, List.forall_mem_cons.mpr ⟨cm_37, fun _ h => absurd h List.not_mem_nil⟩⟩⟩⟩⟩))
set_option maxRecDepth 100000 in
theorem in_wsL_law_r13 : ∀ w ∈ wsL_law_r13, w ∈ lw_tbl := mem_rc _ [1069, 1070, 1071, 1073, 1074, 1003, 1004, 1006, 1010, 1012, 11, 798, 1015, 1017, 12, 1047, 1048, 472, 473] (by decide +kernel) (mem_cc (cs := [Cond.code yX12_loads cX12_loads 7 (some .int), Cond.code yX12_noSheet cX12_noSheet 1 (some .boolean), Cond.code yX12_refused cX12_refused 2 (some .int), Cond.code yX12_failed cX12_failed 2 (some .int), Cond.code yX12_isBeyond cX12_isBeyond 3 (some .boolean)]) rfl (List.forall_mem_cons.mpr ⟨cm_38, List.forall_mem_cons.mpr ⟨cm_39, List.forall_mem_cons.mpr ⟨cm_40, List.forall_mem_cons.mpr ⟨cm_41, List.forall_mem_cons.mpr ⟨cm_42, fun _ h => absurd h List.not_mem_nil⟩⟩⟩⟩⟩))
set_option maxRecDepth 100000 in
theorem in_wsL_law_r14 : ∀ w ∈ wsL_law_r14, w ∈ lw_tbl := mem_rc _ [474, 127, 1075, 1076, 1077, 476, 477, 478, 123, 480, 481, 482, 480, 483, 484, 485, 1079, 1080, 1081] (by decide +kernel) (mem_cc (cs := [Cond.code yX11_valve cX11_valve 3 (some .int), Cond.code yX12_valve cX12_valve 4 (some .int), Cond.code yX11_fill cX11_fill 4 (some .int), Cond.code yX0_room cX0_room 1 (some .int), Cond.code yX12_fill cX12_fill 4 (some .int)]) rfl (List.forall_mem_cons.mpr ⟨cm_43, List.forall_mem_cons.mpr ⟨cm_44, List.forall_mem_cons.mpr ⟨cm_45, List.forall_mem_cons.mpr ⟨cm_46, List.forall_mem_cons.mpr ⟨cm_47, fun _ h => absurd h List.not_mem_nil⟩⟩⟩⟩⟩))
set_option maxRecDepth 100000 in
theorem in_wsL_law_r15 : ∀ w ∈ wsL_law_r15, w ∈ lw_tbl := mem_rc _ [1083, 1085, 16, 487, 488, 489, 130, 1087, 1088, 1089, 491, 492, 493, 133, 108, 101, 103, 105, 1091, 1092] (by decide +kernel) (mem_cc (cs := [Cond.code yX12_room cX12_room 2 (some .int), Cond.code yX11_burst cX11_burst 4 (some .int), Cond.code yX12_burst cX12_burst 4 (some .int), Cond.code yX11_store cX11_store 4 (some .int)]) rfl (List.forall_mem_cons.mpr ⟨cm_48, List.forall_mem_cons.mpr ⟨cm_49, List.forall_mem_cons.mpr ⟨cm_50, List.forall_mem_cons.mpr ⟨cm_51, fun _ h => absurd h List.not_mem_nil⟩⟩⟩⟩))
set_option maxRecDepth 100000 in
theorem in_wsL_law_r16 : ∀ w ∈ wsL_law_r16, w ∈ lw_tbl := mem_rc _ [1093, 1095, 821, 818, 819, 495, 496, 497, 350, 352, 355, 155, 499, 500, 501, 499, 502, 500, 503, 504] (by decide +kernel) (mem_cc (cs := [Cond.code yX12_store cX12_store 4 (some .int), Cond.code yX11_about cX11_about 4 (some .int), Cond.code yX0_kind cX0_kind 1 (some .int), Cond.code yX2_kind cX2_kind 1 (some .int)]) rfl (List.forall_mem_cons.mpr ⟨cm_52, List.forall_mem_cons.mpr ⟨cm_53, List.forall_mem_cons.mpr ⟨cm_54, List.forall_mem_cons.mpr ⟨cm_55, fun _ h => absurd h List.not_mem_nil⟩⟩⟩⟩))
set_option maxRecDepth 100000 in
theorem in_wsL_law_r17 : ∀ w ∈ wsL_law_r17, w ∈ lw_tbl := mem_rc _ [506, 507, 510, 511, 512, 518, 519, 45, 517, 517, 510, 513, 514, 515, 521, 522, 523, 528, 528, 529] (by decide +kernel) (mem_cc (cs := [Cond.code yX10_kind cX10_kind 1 (some .int), Cond.code yX0_loadAt cX0_loadAt 3 (some .int), Cond.code Lib.Math.min.name Lib.Math.min.code 2 (some .int), Cond.code yX0_needAt cX0_needAt 2 (some .int)]) rfl (List.forall_mem_cons.mpr ⟨cm_56, List.forall_mem_cons.mpr ⟨cm_57, List.forall_mem_cons.mpr ⟨cm_58, List.forall_mem_cons.mpr ⟨cm_59, fun _ h => absurd h List.not_mem_nil⟩⟩⟩⟩))
set_option maxRecDepth 100000 in
theorem in_wsL_law_r18 : ∀ w ∈ wsL_law_r18, w ∈ lw_tbl := mem_rc _ [530, 531, 529, 532, 533, 530, 534, 535, 521, 524, 525, 526, 1096, 1097, 1098, 1100, 1102, 17, 1104, 1105] (by decide +kernel) (mem_cc (cs := [Cond.code yX0_pushAgainst cX0_pushAgainst 2 (some .int), Cond.code yX10_pushAgainst cX10_pushAgainst 2 (some .int), Cond.code yX12_about cX12_about 3 (some .int), Cond.code yX12_loadOf cX12_loadOf 3 (some .int)]) rfl (List.forall_mem_cons.mpr ⟨cm_60, List.forall_mem_cons.mpr ⟨cm_61, List.forall_mem_cons.mpr ⟨cm_62, List.forall_mem_cons.mpr ⟨cm_63, fun _ h => absurd h List.not_mem_nil⟩⟩⟩⟩))
set_option maxRecDepth 100000 in
theorem in_wsL_law_r19 : ∀ w ∈ wsL_law_r19, w ∈ lw_tbl := mem_rc _ [1107, 1109, 18, 541, 542, 543, 294, 293, 545, 546, 547, 135, 213, 120, 348, 125, 550, 551, 552, 553] (by decide +kernel) (mem_cc (cs := [Cond.code yX12_lesser cX12_lesser 2 (some .int), Cond.code yX12_needOf cX12_needOf 3 (some .int), Cond.code yX11_tick cX11_tick 3 (some .int), Cond.code yX3_obey cX3_obey 5 none]) rfl (List.forall_mem_cons.mpr ⟨cm_64, List.forall_mem_cons.mpr ⟨cm_65, List.forall_mem_cons.mpr ⟨cm_66, List.forall_mem_cons.mpr ⟨cm_67, fun _ h => absurd h List.not_mem_nil⟩⟩⟩⟩))
set_option maxRecDepth 100000 in
theorem in_wsL_law_r20 : ∀ w ∈ wsL_law_r20, w ∈ lw_tbl := mem_rc _ [551, 554, 555, 556, 559, 560, 561, 65, 132, 68, 99, 107, 575, 168, 166, 164, 595, 596, 563, 564, 566] (by decide +kernel) (mem_cc (cs := [Cond.code yX0_isAt cX0_isAt 3 (some .boolean), Cond.code yX1_run cX1_run 6 none, Cond.code Lib.Math.max.name Lib.Math.max.code 2 (some .int)]) rfl (List.forall_mem_cons.mpr ⟨cm_68, List.forall_mem_cons.mpr ⟨cm_69, List.forall_mem_cons.mpr ⟨cm_70, fun _ h => absurd h List.not_mem_nil⟩⟩⟩))
set_option maxRecDepth 100000 in
theorem in_wsL_law_r21 : ∀ w ∈ wsL_law_r21, w ∈ lw_tbl := mem_rc _ [2, 119, 347, 569, 571, 3, 573, 126, 129, 358, 574, 574, 577, 579, 4, 157, 72, 581, 581, 582, 582] (by decide +kernel) (mem_cc (cs := [Cond.code yX1_drain cX1_drain 6 (some .int), Cond.code yX1_mostLost cX1_mostLost 7 (some .int), Cond.code yX1_lineUp cX1_lineUp 6 none]) rfl (List.forall_mem_cons.mpr ⟨cm_71, List.forall_mem_cons.mpr ⟨cm_72, List.forall_mem_cons.mpr ⟨cm_73, fun _ h => absurd h List.not_mem_nil⟩⟩⟩))
set_option maxRecDepth 100000 in
theorem in_wsL_law_r22 : ∀ w ∈ wsL_law_r22, w ∈ lw_tbl := mem_rc _ [583, 585, 5, 587, 589, 6, 162, 591, 593, 7, 598, 599, 600, 102, 106, 602, 604, 8, 170] (by decide +kernel) (mem_cc (cs := [Cond.code yX1_queue cX1_queue 3 none, Cond.code yX1_takeFromPump cX1_takeFromPump 7 (some .int), Cond.code yX1_give cX1_give 4 none, Cond.code yX8_pressure cX8_pressure 1 (some .int), Cond.code yX1_addUp cX1_addUp 7 none]) rfl (List.forall_mem_cons.mpr ⟨cm_74, List.forall_mem_cons.mpr ⟨cm_75, List.forall_mem_cons.mpr ⟨cm_76, List.forall_mem_cons.mpr ⟨cm_77, List.forall_mem_cons.mpr ⟨cm_78, fun _ h => absurd h List.not_mem_nil⟩⟩⟩⟩⟩))
set_option maxRecDepth 100000 in
theorem in_wsL_law_r23 : ∀ w ∈ wsL_law_r23, w ∈ lw_tbl := mem_rc _ [172, 174, 606, 608, 9, 1119, 1120, 1121, 1123, 1124, 1125, 1127, 19, 827, 822, 830, 833, 838, 832, 831, 835] (by decide +kernel) (mem_cc (cs := [Cond.code yX1_takeFromStore cX1_takeFromStore 5 none, Cond.code yX12_tick cX12_tick 3 (some .int), Cond.code yX12_tickOnce cX12_tickOnce 7 none]) rfl (List.forall_mem_cons.mpr ⟨cm_79, List.forall_mem_cons.mpr ⟨cm_80, List.forall_mem_cons.mpr ⟨cm_81, fun _ h => absurd h List.not_mem_nil⟩⟩⟩))
set_option maxRecDepth 100000 in
theorem in_wsL_law_r24 : ∀ w ∈ wsL_law_r24, w ∈ lw_tbl := mem_rc _ [836, 837, 829, 1129, 1131, 20, 1133, 1135, 21, 1137, 1139, 22, 1141, 1143, 23, 1145, 1147, 24, 610] (by decide +kernel) (mem_cc (cs := [Cond.code yX12_mayBeDone cX12_mayBeDone 3 (some .boolean), Cond.code yX12_loseAll cX12_loseAll 2 none, Cond.code yX12_loseFrom cX12_loseFrom 4 none, Cond.code yX12_findMoving cX12_findMoving 3 none, Cond.code yX12_storePressure cX12_storePressure 1 (some .int)]) rfl (List.forall_mem_cons.mpr ⟨cm_82, List.forall_mem_cons.mpr ⟨cm_83, List.forall_mem_cons.mpr ⟨cm_84, List.forall_mem_cons.mpr ⟨cm_85, List.forall_mem_cons.mpr ⟨cm_86, fun _ h => absurd h List.not_mem_nil⟩⟩⟩⟩⟩))
set_option maxRecDepth 100000 in
theorem in_wsL_law_r25 : ∀ w ∈ wsL_law_r25, w ∈ lw_tbl := mem_rc _ [611, 612, 165, 167, 169, 163, 1149, 1150, 1151, 614, 615, 616, 161, 1153, 1154, 1155, 618, 619, 620] (by decide +kernel) (mem_cc (cs := [Cond.code yX11_gauge cX11_gauge 2 (some .int), Cond.code yX12_gauge cX12_gauge 2 (some .int), Cond.code yX11_mover cX11_mover 2 (some .int), Cond.code yX12_mover cX12_mover 2 (some .int), Cond.code yX11_sum cX11_sum 2 (some .long)]) rfl (List.forall_mem_cons.mpr ⟨cm_87, List.forall_mem_cons.mpr ⟨cm_88, List.forall_mem_cons.mpr ⟨cm_89, List.forall_mem_cons.mpr ⟨cm_90, List.forall_mem_cons.mpr ⟨cm_91, fun _ h => absurd h List.not_mem_nil⟩⟩⟩⟩⟩))
set_option maxRecDepth 100000 in
theorem in_wsL_law_r26 : ∀ w ∈ wsL_law_r26, w ∈ lw_tbl := mem_rc _ [171, 173, 175, 623, 622, 1157, 1158, 1159, 1035, 1036, 1038, 624, 625, 626, 214, 628, 629, 630, 1111, 1112] (by decide +kernel) (mem_cc (cs := [Cond.code yX12_sum cX12_sum 2 (some .long), Cond.code yX12_lost cX12_lost 0 (some .long), Cond.code yX11_order cX11_order 5 (some .int), Cond.code yX3_add cX3_add 5 (some .boolean)]) rfl (List.forall_mem_cons.mpr ⟨cm_92, List.forall_mem_cons.mpr ⟨cm_93, List.forall_mem_cons.mpr ⟨cm_94, List.forall_mem_cons.mpr ⟨cm_95, fun _ h => absurd h List.not_mem_nil⟩⟩⟩⟩))
set_option maxRecDepth 100000 in
theorem in_wsL_law_r27 : ∀ w ∈ wsL_law_r27, w ∈ lw_tbl := mem_rc _ [1113, 632, 633, 634, 136, 1115, 1116, 1117, 636, 637, 638, 292, 640, 641, 642, 134, 646, 647, 648] (by decide +kernel) (mem_cc (cs := [Cond.code yX12_order cX12_order 5 (some .int), Cond.code yX11_waits cX11_waits 1 (some .int), Cond.code yX12_waits cX12_waits 1 (some .int), Cond.code yX11_start cX11_start 1 (some .int), Cond.code yX7_become cX7_become 3 none]) rfl (List.forall_mem_cons.mpr ⟨cm_96, List.forall_mem_cons.mpr ⟨cm_97, List.forall_mem_cons.mpr ⟨cm_98, List.forall_mem_cons.mpr ⟨cm_99, List.forall_mem_cons.mpr ⟨cm_100, fun _ h => absurd h List.not_mem_nil⟩⟩⟩⟩⟩))
set_option maxRecDepth 100000 in
theorem in_wsL_law_r28 : ∀ w ∈ wsL_law_r28, w ∈ lw_tbl := mem_rc _ [100, 1161, 1162, 1163, 843, 844, 848, 849, 650, 651, 652, 236, 654, 655, 656, 235, 1165, 1166, 1167] (by decide +kernel) (mem_cc (cs := [Cond.code yX8_become cX8_become 2 none, Cond.code yX12_start cX12_start 2 (some .int), Cond.code yX11_reading cX11_reading 5 (some .int), Cond.code yX5_add cX5_add 4 (some .boolean), Cond.code yX12_reading cX12_reading 4 (some .int)]) rfl (List.forall_mem_cons.mpr ⟨cm_101, List.forall_mem_cons.mpr ⟨cm_102, List.forall_mem_cons.mpr ⟨cm_103, List.forall_mem_cons.mpr ⟨cm_104, List.forall_mem_cons.mpr ⟨cm_105, fun _ h => absurd h List.not_mem_nil⟩⟩⟩⟩⟩))
set_option maxRecDepth 100000 in
theorem in_wsL_law_r29 : ∀ w ∈ wsL_law_r29, w ∈ lw_tbl := mem_rc _ [850, 659, 660, 661, 1169, 1170, 1171, 663, 664, 665, 667, 668, 669, 672, 673, 674, 675, 374, 677] (by decide +kernel) (mem_cc (cs := [Cond.code yX11_forget cX11_forget 2 (some .int), Cond.code yX12_forget cX12_forget 2 (some .int), Cond.code yX11_leak cX11_leak 4 (some .int), Cond.code yX5_latest cX5_latest 3 (some .int), Cond.code yX4_isHeld cX4_isHeld 2 (some .boolean)]) rfl (List.forall_mem_cons.mpr ⟨cm_106, List.forall_mem_cons.mpr ⟨cm_107, List.forall_mem_cons.mpr ⟨cm_108, List.forall_mem_cons.mpr ⟨cm_109, List.forall_mem_cons.mpr ⟨cm_110, fun _ h => absurd h List.not_mem_nil⟩⟩⟩⟩⟩))
set_option maxRecDepth 100000 in
theorem in_wsL_law_r30 : ∀ w ∈ wsL_law_r30, w ∈ lw_tbl := mem_rc _ [678, 680, 10, 682, 683, 684, 121, 1173, 1174, 1175, 1177, 1179, 25, 1181, 1183, 26, 862, 1185, 1187] (by decide +kernel) (mem_cc (cs := [Cond.code yX11_wouldTellAll cX11_wouldTellAll 6 (some .boolean), Cond.code yX5_areToldAt cX5_areToldAt 4 (some .boolean), Cond.code yX12_leak cX12_leak 5 (some .int), Cond.code yX12_lastReading cX12_lastReading 3 (some .int), Cond.code yX12_putAside cX12_putAside 2 none]) rfl (List.forall_mem_cons.mpr ⟨cm_111, List.forall_mem_cons.mpr ⟨cm_112, List.forall_mem_cons.mpr ⟨cm_113, List.forall_mem_cons.mpr ⟨cm_114, List.forall_mem_cons.mpr ⟨cm_115, fun _ h => absurd h List.not_mem_nil⟩⟩⟩⟩⟩))
set_option maxRecDepth 100000 in
theorem in_wsL_law_r31 : ∀ w ∈ wsL_law_r31, w ∈ lw_tbl := mem_rc _ [27, 1189, 1191, 28, 1193, 1195, 29, 686, 687, 688, 690, 691, 692, 697, 694, 695, 46, 999] (by decide +kernel) (mem_cc (cs := [Cond.code yX12_tellsAll cX12_tellsAll 5 (some .boolean), Cond.code yX12_tells cX12_tells 4 (some .boolean), Cond.code yX12_putBack cX12_putBack 2 none, Cond.code yX11_sheet cX11_sheet 5 (some .int), Cond.code yX6_renew cX6_renew 3 none, Cond.code yJ7_fill_53178 cJ7_fill_53178 4 none]) rfl (List.forall_mem_cons.mpr ⟨cm_116, List.forall_mem_cons.mpr ⟨cm_117, List.forall_mem_cons.mpr ⟨cm_118, List.forall_mem_cons.mpr ⟨cm_119, List.forall_mem_cons.mpr ⟨cm_120, List.forall_mem_cons.mpr ⟨cm_121, fun _ h => absurd h List.not_mem_nil⟩⟩⟩⟩⟩⟩))
set_option maxRecDepth 100000 in
theorem in_wsL_law_r32 : ∀ w ∈ wsL_law_r32, w ∈ lw_tbl := mem_rc _ [1000, 1001, 698, 699, 700, 267, 1019, 1020, 1021, 702, 703, 704, 706, 707, 708, 1023, 1024, 1025] (by decide +kernel) (mem_cc (cs := [Cond.code yX12_sheet cX12_sheet 5 (some .int), Cond.code yX11_lose cX11_lose 4 (some .int), Cond.code yX12_lose cX12_lose 3 (some .int), Cond.code yX11_put cX11_put 5 (some .int), Cond.code yX6_write cX6_write 3 none, Cond.code yX12_put cX12_put 4 (some .int)]) rfl (List.forall_mem_cons.mpr ⟨cm_122, List.forall_mem_cons.mpr ⟨cm_123, List.forall_mem_cons.mpr ⟨cm_124, List.forall_mem_cons.mpr ⟨cm_125, List.forall_mem_cons.mpr ⟨cm_126, List.forall_mem_cons.mpr ⟨cm_127, fun _ h => absurd h List.not_mem_nil⟩⟩⟩⟩⟩⟩))
set_option maxRecDepth 100000 in
theorem in_wsL_law_r33 : ∀ w ∈ wsL_law_r33, w ∈ lw_tbl := mem_rc _ [1027, 1029, 13, 711, 712, 713, 1031, 1032, 1033, 1039, 1041, 14, 715, 716, 717, 269, 719, 721, 720] (by decide +kernel) (mem_cc (cs := [Cond.code yX12_noCell cX12_noCell 3 (some .int), Cond.code yX11_cell cX11_cell 5 (some .long), Cond.code yX12_cell cX12_cell 4 (some .long), Cond.code yX12_failedLong cX12_failedLong 2 (some .long), Cond.code yX11_copy cX11_copy 8 (some .int)]) rfl (List.forall_mem_cons.mpr ⟨cm_128, List.forall_mem_cons.mpr ⟨cm_129, List.forall_mem_cons.mpr ⟨cm_130, List.forall_mem_cons.mpr ⟨cm_131, List.forall_mem_cons.mpr ⟨cm_132, fun _ h => absurd h List.not_mem_nil⟩⟩⟩⟩⟩))
set_option maxRecDepth 100000 in
theorem in_wsL_law_r34 : ∀ w ∈ wsL_law_r34, w ∈ lw_tbl := mem_rc _ [47, 1043, 1044, 1045, 722, 723, 724, 726, 727, 728, 754, 742, 1227, 744, 734, 735, 254, 754, 1226] (by decide +kernel) (mem_cc (cs := [Cond.code yX12_copy cX12_copy 7 (some .int), Cond.code yX11_tell cX11_tell 3 (some .int), Cond.code yX0_toldBy cX0_toldBy 3 (some .int), Cond.code yX0_plainlyTold cX0_plainlyTold 3 (some .int), Cond.code yX9_leave cX9_leave 2 none]) rfl (List.forall_mem_cons.mpr ⟨cm_133, List.forall_mem_cons.mpr ⟨cm_134, List.forall_mem_cons.mpr ⟨cm_135, List.forall_mem_cons.mpr ⟨cm_136, List.forall_mem_cons.mpr ⟨cm_137, fun _ h => absurd h List.not_mem_nil⟩⟩⟩⟩⟩))
set_option maxRecDepth 100000 in
theorem in_wsL_law_r35 : ∀ w ∈ wsL_law_r35, w ∈ lw_tbl := mem_rc _ [1228, 1229, 726, 729, 727, 730, 731, 745, 733, 737, 738, 740, 741, 746, 747, 749, 750, 751, 752, 1197, 1198, 1199] (by decide +kernel) (mem_cc (cs := [Cond.code yX2_toldBy cX2_toldBy 3 (some .int), Cond.code yX10_toldBy cX10_toldBy 3 (some .int)]) rfl (List.forall_mem_cons.mpr ⟨cm_138, List.forall_mem_cons.mpr ⟨cm_139, fun _ h => absurd h List.not_mem_nil⟩⟩))
set_option maxRecDepth 100000 in
theorem in_wsL_law_r36 : ∀ w ∈ wsL_law_r36, w ∈ lw_tbl := mem_rc _ [1205, 1201, 1203, 30, 863, 755, 756, 757, 759, 760, 761, 759, 762, 763, 760, 764, 765, 1206, 1207] (by decide +kernel) (mem_cc (cs := [Cond.code yX12_tell cX12_tell 2 (some .int), Cond.code yX12_traced cX12_traced 2 none, Cond.code yX11_look cX11_look 3 (some .int), Cond.code yX0_seenBy cX0_seenBy 2 (some .int), Cond.code yX10_seenBy cX10_seenBy 2 (some .int)]) rfl (List.forall_mem_cons.mpr ⟨cm_140, List.forall_mem_cons.mpr ⟨cm_141, List.forall_mem_cons.mpr ⟨cm_142, List.forall_mem_cons.mpr ⟨cm_143, List.forall_mem_cons.mpr ⟨cm_144, fun _ h => absurd h List.not_mem_nil⟩⟩⟩⟩⟩))
set_option maxRecDepth 100000 in
theorem in_wsL_law_r37 : ∀ w ∈ wsL_law_r37, w ∈ lw_tbl := mem_rc _ [1208, 768, 769, 770, 772, 773, 1210, 1211, 1212, 774, 775, 776, 255, 1214, 1215, 1216, 778, 779, 780] (by decide +kernel) (mem_cc (cs := [Cond.code yX12_look cX12_look 2 (some .int), Cond.code yX11_as cX11_as 5 (some .int), Cond.code yX12_as cX12_as 3 (some .int), Cond.code yX11_trace cX11_trace 1 (some .int), Cond.code yX12_trace cX12_trace 1 (some .int)]) rfl (List.forall_mem_cons.mpr ⟨cm_145, List.forall_mem_cons.mpr ⟨cm_146, List.forall_mem_cons.mpr ⟨cm_147, List.forall_mem_cons.mpr ⟨cm_148, List.forall_mem_cons.mpr ⟨cm_149, fun _ h => absurd h List.not_mem_nil⟩⟩⟩⟩⟩))
set_option maxRecDepth 100000 in
theorem in_wsL_law_r38 : ∀ w ∈ wsL_law_r38, w ∈ lw_tbl := mem_rc _ [1218, 1219, 1220, 782, 783, 784, 786, 787, 788, 122, 791, 791, 1222, 1223, 1224] (by decide +kernel) (mem_cc (cs := [Cond.code yX11_fault cX11_fault 1 (some .int), Cond.code yX12_fault cX12_fault 1 (some .int), Cond.code yX11_told cX11_told 2 (some .int), Cond.code yX4_howManyAt cX4_howManyAt 6 (some .int), Cond.code yX12_told cX12_told 4 (some .int)]) rfl (List.forall_mem_cons.mpr ⟨cm_150, List.forall_mem_cons.mpr ⟨cm_151, List.forall_mem_cons.mpr ⟨cm_152, List.forall_mem_cons.mpr ⟨cm_153, List.forall_mem_cons.mpr ⟨cm_154, fun _ h => absurd h List.not_mem_nil⟩⟩⟩⟩⟩))
set_option maxRecDepth 100000 in
theorem in_wsX110 : ∀ w ∈ wsX110, w ∈ lw_tbl := by decide +kernel
set_option maxRecDepth 100000 in
theorem in_wsX120 : ∀ w ∈ wsX120, w ∈ lw_tbl := by decide +kernel
set_option maxRecDepth 100000 in
theorem in_wsX40 : ∀ w ∈ wsX40, w ∈ lw_tbl := by decide +kernel
set_option maxRecDepth 100000 in
theorem in_wsX70 : ∀ w ∈ wsX70, w ∈ lw_tbl := by decide +kernel
set_option maxRecDepth 100000 in
theorem in_wsX10 : ∀ w ∈ wsX10, w ∈ lw_tbl := by decide +kernel
set_option maxRecDepth 100000 in
theorem in_wsX30 : ∀ w ∈ wsX30, w ∈ lw_tbl := by decide +kernel
set_option maxRecDepth 100000 in
theorem in_wsX50 : ∀ w ∈ wsX50, w ∈ lw_tbl := by decide +kernel
set_option maxRecDepth 100000 in
theorem in_wsX90 : ∀ w ∈ wsX90, w ∈ lw_tbl := by decide +kernel
set_option maxRecDepth 100000 in
theorem in_wsX60 : ∀ w ∈ wsX60, w ∈ lw_tbl := by decide +kernel
set_option maxRecDepth 100000 in
theorem in_wsX80 : ∀ w ∈ wsX80, w ∈ lw_tbl := by decide +kernel
set_option maxRecDepth 100000 in
theorem in_wsX00 : ∀ w ∈ wsX00, w ∈ lw_tbl := by decide +kernel
set_option maxRecDepth 100000 in
theorem in_wsX20 : ∀ w ∈ wsX20, w ∈ lw_tbl := by decide +kernel
set_option maxRecDepth 100000 in
theorem in_wsX100 : ∀ w ∈ wsX100, w ∈ lw_tbl := by decide +kernel
theorem wsL_law_in : ∀ w ∈ wsL_law, w ∈ lw_tbl := List.forall_mem_append.mpr ⟨(List.forall_mem_append.mpr ⟨(List.forall_mem_append.mpr ⟨(List.forall_mem_append.mpr ⟨(List.forall_mem_append.mpr ⟨(List.forall_mem_append.mpr ⟨(List.forall_mem_append.mpr ⟨(List.forall_mem_append.mpr ⟨(List.forall_mem_append.mpr ⟨(List.forall_mem_append.mpr ⟨(List.forall_mem_append.mpr ⟨(List.forall_mem_append.mpr ⟨(List.forall_mem_append.mpr ⟨(List.forall_mem_append.mpr ⟨(List.forall_mem_append.mpr ⟨in_wsL_law_r1, (List.forall_mem_append.mpr ⟨in_wsL_law_r2, (List.forall_mem_append.mpr ⟨in_wsL_law_r3, (List.forall_mem_append.mpr ⟨in_wsL_law_r4, (List.forall_mem_append.mpr ⟨in_wsL_law_r5, (List.forall_mem_append.mpr ⟨in_wsL_law_r6, (List.forall_mem_append.mpr ⟨in_wsL_law_r7, (List.forall_mem_append.mpr ⟨in_wsL_law_r8, (List.forall_mem_append.mpr ⟨in_wsL_law_r9, (List.forall_mem_append.mpr ⟨in_wsL_law_r10, (List.forall_mem_append.mpr ⟨in_wsL_law_r11, (List.forall_mem_append.mpr ⟨in_wsL_law_r12, (List.forall_mem_append.mpr ⟨in_wsL_law_r13, (List.forall_mem_append.mpr ⟨in_wsL_law_r14, (List.forall_mem_append.mpr ⟨in_wsL_law_r15, (List.forall_mem_append.mpr ⟨in_wsL_law_r16, (List.forall_mem_append.mpr ⟨in_wsL_law_r17, (List.forall_mem_append.mpr ⟨in_wsL_law_r18, (List.forall_mem_append.mpr ⟨in_wsL_law_r19, (List.forall_mem_append.mpr ⟨in_wsL_law_r20, (List.forall_mem_append.mpr ⟨in_wsL_law_r21, (List.forall_mem_append.mpr ⟨in_wsL_law_r22, (List.forall_mem_append.mpr ⟨in_wsL_law_r23, (List.forall_mem_append.mpr ⟨in_wsL_law_r24, (List.forall_mem_append.mpr ⟨in_wsL_law_r25, (List.forall_mem_append.mpr ⟨in_wsL_law_r26, (List.forall_mem_append.mpr ⟨in_wsL_law_r27, (List.forall_mem_append.mpr ⟨in_wsL_law_r28, (List.forall_mem_append.mpr ⟨in_wsL_law_r29, (List.forall_mem_append.mpr ⟨in_wsL_law_r30, (List.forall_mem_append.mpr ⟨in_wsL_law_r31, (List.forall_mem_append.mpr ⟨in_wsL_law_r32, (List.forall_mem_append.mpr ⟨in_wsL_law_r33, (List.forall_mem_append.mpr ⟨in_wsL_law_r34, (List.forall_mem_append.mpr ⟨in_wsL_law_r35, (List.forall_mem_append.mpr ⟨in_wsL_law_r36, (List.forall_mem_append.mpr ⟨in_wsL_law_r37, in_wsL_law_r38⟩)⟩)⟩)⟩)⟩)⟩)⟩)⟩)⟩)⟩)⟩)⟩)⟩)⟩)⟩)⟩)⟩)⟩)⟩)⟩)⟩)⟩)⟩)⟩)⟩)⟩)⟩)⟩)⟩)⟩)⟩)⟩)⟩)⟩)⟩)⟩)⟩), in_wsX110⟩), in_wsX120⟩), in_wsX40⟩), in_wsX70⟩), in_wsX10⟩), in_wsX30⟩), in_wsX50⟩), in_wsX90⟩), in_wsX60⟩), in_wsX80⟩), in_wsX00⟩), in_wsX20⟩), in_wsX100⟩), fun _ h => absurd h List.not_mem_nil⟩
theorem inlX0 : ∀ w ∈ wsX00, w ∈ wsL_law := fun _ h => List.mem_append_left _ (List.mem_append_left _ (List.mem_append_left _ (List.mem_append_right _ h)))
theorem inX0 : ∀ w ∈ wsX00, w ∈ lw_tbl := fun w h => wsL_law_in w (inlX0 w h)
theorem inlX1 : ∀ w ∈ wsX10, w ∈ wsL_law := fun _ h => List.mem_append_left _ (List.mem_append_left _ (List.mem_append_left _ (List.mem_append_left _ (List.mem_append_left _ (List.mem_append_left _ (List.mem_append_left _ (List.mem_append_left _ (List.mem_append_left _ (List.mem_append_right _ h)))))))))
theorem inX1 : ∀ w ∈ wsX10, w ∈ lw_tbl := fun w h => wsL_law_in w (inlX1 w h)
theorem inlX2 : ∀ w ∈ wsX20, w ∈ wsL_law := fun _ h => List.mem_append_left _ (List.mem_append_left _ (List.mem_append_right _ h))
theorem inX2 : ∀ w ∈ wsX20, w ∈ lw_tbl := fun w h => wsL_law_in w (inlX2 w h)
theorem inlX3 : ∀ w ∈ wsX30, w ∈ wsL_law := fun _ h => List.mem_append_left _ (List.mem_append_left _ (List.mem_append_left _ (List.mem_append_left _ (List.mem_append_left _ (List.mem_append_left _ (List.mem_append_left _ (List.mem_append_left _ (List.mem_append_right _ h))))))))
theorem inX3 : ∀ w ∈ wsX30, w ∈ lw_tbl := fun w h => wsL_law_in w (inlX3 w h)
theorem inlX4 : ∀ w ∈ wsX40, w ∈ wsL_law := fun _ h => List.mem_append_left _ (List.mem_append_left _ (List.mem_append_left _ (List.mem_append_left _ (List.mem_append_left _ (List.mem_append_left _ (List.mem_append_left _ (List.mem_append_left _ (List.mem_append_left _ (List.mem_append_left _ (List.mem_append_left _ (List.mem_append_right _ h)))))))))))
theorem inX4 : ∀ w ∈ wsX40, w ∈ lw_tbl := fun w h => wsL_law_in w (inlX4 w h)
theorem inlX5 : ∀ w ∈ wsX50, w ∈ wsL_law := fun _ h => List.mem_append_left _ (List.mem_append_left _ (List.mem_append_left _ (List.mem_append_left _ (List.mem_append_left _ (List.mem_append_left _ (List.mem_append_left _ (List.mem_append_right _ h)))))))
theorem inX5 : ∀ w ∈ wsX50, w ∈ lw_tbl := fun w h => wsL_law_in w (inlX5 w h)
theorem inlX6 : ∀ w ∈ wsX60, w ∈ wsL_law := fun _ h => List.mem_append_left _ (List.mem_append_left _ (List.mem_append_left _ (List.mem_append_left _ (List.mem_append_left _ (List.mem_append_right _ h)))))
theorem inX6 : ∀ w ∈ wsX60, w ∈ lw_tbl := fun w h => wsL_law_in w (inlX6 w h)
theorem inlX7 : ∀ w ∈ wsX70, w ∈ wsL_law := fun _ h => List.mem_append_left _ (List.mem_append_left _ (List.mem_append_left _ (List.mem_append_left _ (List.mem_append_left _ (List.mem_append_left _ (List.mem_append_left _ (List.mem_append_left _ (List.mem_append_left _ (List.mem_append_left _ (List.mem_append_right _ h))))))))))
theorem inX7 : ∀ w ∈ wsX70, w ∈ lw_tbl := fun w h => wsL_law_in w (inlX7 w h)
theorem inlX8 : ∀ w ∈ wsX80, w ∈ wsL_law := fun _ h => List.mem_append_left _ (List.mem_append_left _ (List.mem_append_left _ (List.mem_append_left _ (List.mem_append_right _ h))))
theorem inX8 : ∀ w ∈ wsX80, w ∈ lw_tbl := fun w h => wsL_law_in w (inlX8 w h)
theorem inlX9 : ∀ w ∈ wsX90, w ∈ wsL_law := fun _ h => List.mem_append_left _ (List.mem_append_left _ (List.mem_append_left _ (List.mem_append_left _ (List.mem_append_left _ (List.mem_append_left _ (List.mem_append_right _ h))))))
theorem inX9 : ∀ w ∈ wsX90, w ∈ lw_tbl := fun w h => wsL_law_in w (inlX9 w h)
theorem inlX10 : ∀ w ∈ wsX100, w ∈ wsL_law := fun _ h => List.mem_append_left _ (List.mem_append_right _ h)
theorem inX10 : ∀ w ∈ wsX100, w ∈ lw_tbl := fun w h => wsL_law_in w (inlX10 w h)
theorem inlX11 : ∀ w ∈ wsX110, w ∈ wsL_law := fun _ h => List.mem_append_left _ (List.mem_append_left _ (List.mem_append_left _ (List.mem_append_left _ (List.mem_append_left _ (List.mem_append_left _ (List.mem_append_left _ (List.mem_append_left _ (List.mem_append_left _ (List.mem_append_left _ (List.mem_append_left _ (List.mem_append_left _ (List.mem_append_left _ (List.mem_append_right _ h)))))))))))))
theorem inX11 : ∀ w ∈ wsX110, w ∈ lw_tbl := fun w h => wsL_law_in w (inlX11 w h)
theorem inlX12 : ∀ w ∈ wsX120, w ∈ wsL_law := fun _ h => List.mem_append_left _ (List.mem_append_left _ (List.mem_append_left _ (List.mem_append_left _ (List.mem_append_left _ (List.mem_append_left _ (List.mem_append_left _ (List.mem_append_left _ (List.mem_append_left _ (List.mem_append_left _ (List.mem_append_left _ (List.mem_append_left _ (List.mem_append_right _ h))))))))))))
theorem inX12 : ∀ w ∈ wsX120, w ∈ lw_tbl := fun w h => wsL_law_in w (inlX12 w h)
