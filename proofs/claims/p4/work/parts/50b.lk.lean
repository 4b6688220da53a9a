set_option maxRecDepth 100000 in
theorem nest_in : ∀ q ∈ nestL, Cond.methodLinkNest q.1 q.2.1 q.2.2.1 q.2.2.2 ∈ lw_tbl := by decide +kernel
set_option maxRecDepth 100000 in
theorem supA_in : ∀ w ∈ ([.methodLink RX10 7 ⟨"OilPush$Held", "pushAgainst", "(I)I"⟩, .sameMethod "OilPush$Held" "OilPush$Cylinder" "pushAgainst" "(I)I", .superclass RX10 "OilPush$Held", .superclass "OilPush$Held" "OilPush$Cylinder", .instanceMethod yX0_pushAgainst, .initialized RX0] : List Cond), w ∈ lw_tbl := by decide +kernel
set_option maxRecDepth 100000 in
theorem supL_in : ∀ w ∈ supL, w ∈ lw_tbl := fun w hw => (List.mem_append.mp hw).elim (fun h => supA_in w h) (fun h => wsL_law_in w (ggL_law_X11_about w (ggX11_about_X0_needAt w (ggX0_needAt_X0_pushAgainst w h).1).1).1)
set_option maxRecDepth 100000 in
set_option maxHeartbeats 4000000 in
theorem law_K {s : State} {args : Array Value} (hts : ∀ w ∈ lw_tbl, w.before args s = true) (hgv : (Jvm.Cond.and given_1 narrow_1).before args s = true) : ∃ g : Gt, Kw g s := by
  have hfl := flat_of_before _ hgv
  obtain ⟨c0, i0, k0⟩ := u_known (C := RX0) (T := TX0) (N := 7) (n := 7) hts inX0 (hts (.instantiable RX0 7) (List.mem_of_getElem? (i := 341) (by decide +kernel)))
  obtain ⟨c1, i1, k1⟩ := u_known (C := RX1) (T := TX1) (N := 13) (n := 13) hts inX1 (hts (.instantiable RX1 13) (List.mem_of_getElem? (i := 149) (by decide +kernel)))
  obtain ⟨c2, i2, k2⟩ := u_known (C := RX2) (T := TX2) (N := 7) (n := 7) hts inX2 (hts (.instantiable RX2 7) (List.mem_of_getElem? (i := 375) (by decide +kernel)))
  obtain ⟨c3, i3, k3⟩ := u_known (C := RX3) (T := TX3) (N := 5) (n := 5) hts inX3 (hts (.instantiable RX3 5) (List.mem_of_getElem? (i := 204) (by decide +kernel)))
  obtain ⟨c4, i4, k4⟩ := u_known (C := RX4) (T := TX4) (N := 5) (n := 5) hts inX4 (hts (.instantiable RX4 5) (List.mem_of_getElem? (i := 57) (by decide +kernel)))
  obtain ⟨c5, i5, k5⟩ := u_known (C := RX5) (T := TX5) (N := 4) (n := 4) hts inX5 (hts (.instantiable RX5 4) (List.mem_of_getElem? (i := 227) (by decide +kernel)))
  obtain ⟨c6, i6, k6⟩ := u_known (C := RX6) (T := TX6) (N := 4) (n := 4) hts inX6 (hts (.instantiable RX6 4) (List.mem_of_getElem? (i := 259) (by decide +kernel)))
  obtain ⟨c7, i7, k7⟩ := u_known (C := RX7) (T := TX7) (N := 5) (n := 5) hts inX7 (hts (.instantiable RX7 5) (List.mem_of_getElem? (i := 88) (by decide +kernel)))
  obtain ⟨c8, i8, k8⟩ := u_known (C := RX8) (T := TX8) (N := 4) (n := 4) hts inX8 (hts (.instantiable RX8 4) (List.mem_of_getElem? (i := 94) (by decide +kernel)))
  obtain ⟨c9, i9, k9⟩ := u_known (C := RX9) (T := TX9) (N := 1) (n := 1) hts inX9 (hts (.instantiable RX9 1) (List.mem_of_getElem? (i := 249) (by decide +kernel)))
  obtain ⟨c10, i10, k10⟩ := u_known (C := RX10) (T := TX10) (N := 7) (n := 7) hts inX10 (hts (.instantiable RX10 7) (List.mem_of_getElem? (i := 389) (by decide +kernel)))
  obtain ⟨c11, i11, k11⟩ := u_known (C := RX11) (T := TX11) (N := 15) (n := 15) hts inX11 (hts (.instantiable RX11 15) (List.mem_of_getElem? (i := 49) (by decide +kernel)))
  obtain ⟨c12, i12, k12⟩ := u_known (C := RX12) (T := TX12) (N := 66) (n := 66) hts inX12 (hts (.instantiable RX12 66) (List.mem_of_getElem? (i := 793) (by decide +kernel)))
  obtain ⟨cI, kI, pI, hI1, hI2, hI3⟩ := Cond.arrayClass_spec (hts (.arrayClass .int) (List.mem_of_getElem? (i := 86) (by decide +kernel)))
  obtain ⟨cZ, kZ, pZ, hZ1, hZ2, hZ3⟩ := Cond.arrayClass_spec (hts (.arrayClass .boolean) (List.mem_of_getElem? (i := 997) (by decide +kernel)))
  obtain ⟨cJ, kJ, pJ, hJ1, hJ2, hJ3⟩ := Cond.arrayClass_spec (hts (.arrayClass .long) (List.mem_of_getElem? (i := 998) (by decide +kernel)))
  have oC := hts (.arrayOver (.object "OilPush$Cylinder")) (List.mem_of_getElem? (i := 63) (by decide +kernel))
  obtain ⟨pC, cC, kC, hC1, -, hC3, hC4, hC5⟩ := Cond.arrayOver_spec oC
  have oS := hts (.arrayOver (.object "OilPush$Sheet")) (List.mem_of_getElem? (i := 247) (by decide +kernel))
  obtain ⟨pS, cS, kS, hS1, -, hS3, hS4, hS5⟩ := Cond.arrayOver_spec oS
  refine ⟨((fun k => [c0, c1, c2, c3, c4, c5, c6, c7, c8, c9, c10, c11, c12].getD k c0, fun k => [i0, i1, i2, i3, i4, i5, i6, i7, i8, i9, i10, i11, i12].getD k i0), fun k => [cI, cZ, cJ, cC, cS].getD k cI), ⟨fun k q hq => ?_, fun k q hq => ?_⟩, ?_⟩
  · match k, hq with
    | 0, hq => cases hq; exact k0
    | 1, hq => cases hq; exact k1
    | 2, hq => cases hq; exact k2
    | 3, hq => cases hq; exact k3
    | 4, hq => cases hq; exact k4
    | 5, hq => cases hq; exact k5
    | 6, hq => cases hq; exact k6
    | 7, hq => cases hq; exact k7
    | 8, hq => cases hq; exact k8
    | 9, hq => cases hq; exact k9
    | 10, hq => cases hq; exact k10
    | 11, hq => cases hq; exact k11
    | 12, hq => cases hq; exact k12
    | k + 13, hq => simp [vwCl] at hq
  · match k, hq with
    | 0, hq => cases hq; exact ⟨fun n z => ⟨fun k h => (by cases h), kI, hI2, pI, hI3⟩, hI1⟩
    | 1, hq => cases hq; exact ⟨fun n z => ⟨fun k h => (by cases h), kZ, hZ2, pZ, hZ3⟩, hZ1⟩
    | 2, hq => cases hq; exact ⟨fun n z => ⟨fun k h => (by cases h), kJ, hJ2, pJ, hJ3⟩, hJ1⟩
    | 3, hq => cases hq; exact ⟨fun n z => ⟨fun k h => (by cases h), kC, hC3, pC, hC4⟩, kC, pC, hC3, hC4, hC1, hC5⟩
    | 4, hq => cases hq; exact ⟨fun n z => ⟨fun k h => (by cases h), kS, hS3, pS, hS4⟩, kS, pS, hS3, hS4, hS1, hS5⟩
    | k + 5, hq => simp at hq
  · refine ⟨fun q hq => va_Nw.of rfl (hts _ (nest_in q hq)), va_AO.of oC, va_AO.of oS, va_Nw.of rfl (hts (.castable "OilPush$Held" "OilPush$Cylinder") (List.mem_of_getElem? (i := 1231) (by decide +kernel))), va_Nw.of rfl (hts (.castable "OilPush$Twin" "OilPush$Cylinder") (List.mem_of_getElem? (i := 1232) (by decide +kernel))), va_Nw.of rfl (hts (.castable "OilPush$Twin" "OilPush$Held") (List.mem_of_getElem? (i := 1230) (by decide +kernel))), va_Nc.of (hfl (.not (.castable "OilPush$Cylinder" "OilPush$Held")) (by decide +kernel)), va_Nc.of (hfl (.not (.castable "OilPush$Cylinder" "OilPush$Twin")) (by decide +kernel)), va_Nc.of (hfl (.not (.castable "OilPush$Held" "OilPush$Twin")) (by decide +kernel)), fun w hw => pay_in (args := args) (big := supL) (fun w hw => hts w (supL_in w hw)) supL_good w hw #[] s (State.WarmedH.refl s)⟩
