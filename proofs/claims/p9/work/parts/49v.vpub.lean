theorem b6_1 {b : FnI} {c : Nat} (h : B6 b) (hc : c < 6) (h1 : ¬ b c = 0) : b c = 1 := (h c (by omega)).resolve_left h1
theorem st_pos {v : Int32} (h : ¬ r_c_in v.toInt64 1 100 = 0) : 0 < v := by
  have h1 := in_l h
  rw [show (1 : Int64).toInt = 1 from by decide] at h1
  rw [Int32.lt_iff_toInt_lt, Int32.toInt_zero]
  omega
theorem mv_in {n x : Int32} (h : 0 ≤ n.toInt ∧ n.toInt ≤ 6) : r_c_in x.toInt64 0 (n.toInt64 - 1) = r_c_within x 0 (n - 1) := by
  have e : n.toInt64 - 1 = (n - 1).toInt64 := Int64.toInt_inj.mp (by
    rw [Int32.toInt_toInt64, Int64.toInt_sub, Int32.toInt_toInt64, Int32.toInt_sub, show (1 : Int64).toInt = 1 from by decide, show (1 : Int32).toInt = 1 from by decide, Int.bmod_eq_of_le, Int.bmod_eq_of_le] <;> omega)
  rw [e]
  exact in_within x 0 (n - 1)
theorem mv_vp {n x : Int32} (h : 0 ≤ n.toInt ∧ n.toInt ≤ 6) (hx : ¬ r_c_in x.toInt64 0 (n.toInt64 - 1) = 0) : vp_in x 6 := by
  rw [mv_in h, within_eq] at hx
  by_cases hh : (0 : Int32).toInt ≤ x.toInt ∧ x.toInt ≤ (n - 1).toInt
  · have e3 : (n - 1).toInt = n.toInt - 1 := by
      rw [Int32.toInt_sub, show (1 : Int32).toInt = 1 from by decide, Int.bmod_eq_of_le] <;> omega
    rw [Int32.toInt_zero, e3] at hh
    rw [vp_in_iff]
    omega
  · exact absurd (if_neg hh) hx
theorem hw_X12_valve_X12 : ∀ w ∈ wsX120, w ∈ wsX12_valve := fun w h => List.mem_cons_of_mem _ (List.mem_append_right _ h)
set_option maxRecDepth 100000 in
set_option maxHeartbeats 4000000 in
theorem v_valve (l : Launch) (g : Gt) (h0 : Nat) (q : Nat → Nat) (i : Nat → Int32) (L : Nat → Int64) (a17 : Nat → Int32) (cy : Int32) (v : Int32) (h7 : 0 ≤ (i 7).toInt ∧ (i 7).toInt ≤ 6) : Ctr l g yX12_valve wsX12_valve ({ frames := 2, cells := 0, slots := 0, locals := 46 } : Room) [.ref h0, .int cy, .int v] [(h0, .inr (12, mO q i L)), ((q 17), .inl (g.2 0, 6, .inl a17))] (fun A => QI g A (fun r (u : (Nat → Int32)) => (r = vl_r (i 7) a17 cy v) ∧ (u = vl_f (i 7) a17 cy v)) (fun (u : (Nat → Int32)) => [(h0, .inr (12, mO q i L)), ((q 17), .inl (g.2 0, 6, .inl u))])) := by
  refine Ctr.of (cc := cX12_valve) (maxL := 4) (ret := (some .int)) (by decide) rfl (Nat.le_of_ble_eq_true rfl) ?_
  intro p e s m below meth c A ls H C hP hD hA hS hl
  obtain ⟨hx, hb, hr, hts, hown, hlocks, hml, hin, hKN⟩ := id C
  have hK := hKN.1
  have hN := hKN.2
  have F : CallFix p m c cX12_valve 4 s _ wsX12_valve yX12_valve.cls := ⟨hx, hb, hml, hown, hts⟩
  have hl : lv_has ls 4 [(0, .ref h0), (1, .int cy), (2, .int v)] := hl
  refine lv_aload_n hx hb dX12_valve_0 rfl (lv_at hl 0 rfl) ?_
  refine lv_iload_n hx hb dX12_valve_1 rfl (lv_at hl 1 rfl) ?_
  refine kI (rnV (As := [.int cy]) (rest := []) (Cn := RX12) C (g_noCylinder l g h0 q i L cy) 1 gX12_valve_X12_noCylinder rfl (by decide +kernel) ⟨(Nat.le_of_ble_eq_true rfl), (Nat.le_of_ble_eq_true rfl)⟩ hP (k := 0) (ci := 12) rfl rfl rfl rfl hl.1 rfl (Nat.le_of_ble_eq_true rfl) dX12_valve_2 ⟨(Nat.le_of_ble_eq_true rfl), (Nat.le_of_ble_eq_true rfl)⟩) (spM0 [true, false] hP hD rfl) hA hS (fun r1 u2 H locs hw hP hD hS => ?_)
  have hre := hw
  replace hP : va_P g.1 vwCl [(h0, .inr (12, mO q i L)), ((q 17), .inl (g.2 0, 6, .inl a17))] H := hP
  replace hD : va_D A [(h0, .inr (12, mO q i L)), ((q 17), .inl (g.2 0, 6, .inl a17))] := hD
  refine nx_i (v := (r_g_noCylinder i cy)) hre ?_
  refine lv_if_eq (tgt := 10) hx hb dX12_valve_5 (by decide) (fun c3 => ?_) (fun c3 => ?_)
  · refine lv_iload_n hx hb dX12_valve_10 rfl (lv_at hl 2 rfl) ?_
    refine lv_i2l hx hb dX12_valve_11 rfl ?_
    refine lv_lconst (v := 0) hx hb dX12_valve_12 (by decide) ?_
    refine lv_ldc2 (v := 2) hx hb hown (hts (.constantLong RX12 162 (2)) (List.mem_of_getElem? (i := 1) rfl)) dX12_valve_13 ?_
    refine pureIS (As := [.long (Int32.toInt64 v), .long 0, .long 2]) (rest := []) F (c_in l (Int32.toInt64 v) 0 2) 3 gX12_valve_X12_in rfl (by decide +kernel) rfl rfl ⟨(Nat.le_of_ble_eq_true rfl), (Nat.le_of_ble_eq_true rfl)⟩ (Nat.le_of_ble_eq_true rfl) (Nat.le_of_ble_eq_true rfl) rfl hl.1 rfl (Nat.le_of_ble_eq_true rfl) dX12_valve_16 ?_
    refine lv_if_ne (tgt := 25) hx hb dX12_valve_19 (by decide) (fun c4 => ?_) (fun c4 => ?_)
    · refine lv_aload_n hx hb dX12_valve_25 rfl (lv_at hl 0 rfl) ?_
      refine va_get (D := g.1) (ci := 12) (v := .ref (q 17)) (C := RX12) (T := TX12) (N := 66) hx hb hts hw_X12_valve_X12 hown hK hP 0 rfl rfl 17 (by decide) (hts (.fieldLink RX12 49 "OilPushModel" "valves" "[I") (List.mem_of_getElem? (i := 2) rfl)) (fun _ h => h) rfl dX12_valve_26 ?_
      refine lv_iload_n hx hb dX12_valve_29 rfl (lv_at hl 1 rfl) ?_
      refine va_iald hx hb hK hP 1 0 rfl rfl (noCyl_in h7 c3).1 dX12_valve_30 ?_
      refine lv_istore_n (lv' := [(3, .int (a17 (cy.toNatClampNeg))), (0, .ref h0), (1, .int cy), (2, .int v)]) hx hb dX12_valve_31 rfl hl (by decide) rfl (fun ls hl => ?_)
      refine lv_aload_n hx hb dX12_valve_32 rfl (lv_at hl 1 rfl) ?_
      refine va_get (D := g.1) (ci := 12) (v := .ref (q 17)) (C := RX12) (T := TX12) (N := 66) hx hb hts hw_X12_valve_X12 hown hK hP 0 rfl rfl 17 (by decide) (hts (.fieldLink RX12 49 "OilPushModel" "valves" "[I") (List.mem_of_getElem? (i := 2) rfl)) (fun _ h => h) rfl dX12_valve_33 ?_
      refine lv_iload_n hx hb dX12_valve_36 rfl (lv_at hl 2 rfl) ?_
      refine lv_iload_n hx hb dX12_valve_37 rfl (lv_at hl 3 rfl) ?_
      refine va_iast hx hb hK hP hD hS 1 0 rfl rfl (noCyl_in h7 c3).1 dX12_valve_38 (fun H locs hP hD hS => ?_)
      replace hP : va_P g.1 vwCl [(h0, .inr (12, mO q i L)), ((q 17), .inl (g.2 0, 6, .inl (upd a17 (cy.toNatClampNeg) v)))] H := hP
      replace hD : va_D A [(h0, .inr (12, mO q i L)), ((q 17), .inl (g.2 0, 6, .inl (upd a17 (cy.toNatClampNeg) v)))] := hD
      refine lv_iload_n hx hb dX12_valve_39 rfl (lv_at hl 0 rfl) ?_
      exact retI C hS (upd a17 (cy.toNatClampNeg) v) ⟨(by simp only [vl_r, if_pos h7, if_neg (nc_n h7 c3), if_neg (show ¬ r_c_within v 0 2 = 0 from fun e9 => c4 ((in_within v 0 2).trans e9)), (show r_c_get 6 a17 cy = a17 (cy.toNatClampNeg) from get_in (noCyl_in h7 c3).1 (by decide)), (show ∀ v9 : Int32, r_c_set 6 a17 cy v9 = upd a17 (cy.toNatClampNeg) v9 from fun v9 => set_in (noCyl_in h7 c3).1 (by decide))]), (by simp only [vl_f, if_pos h7, if_neg (nc_n h7 c3), if_neg (show ¬ r_c_within v 0 2 = 0 from fun e9 => c4 ((in_within v 0 2).trans e9)), (show r_c_get 6 a17 cy = a17 (cy.toNatClampNeg) from get_in (noCyl_in h7 c3).1 (by decide)), (show ∀ v9 : Int32, r_c_set 6 a17 cy v9 = upd a17 (cy.toNatClampNeg) v9 from fun v9 => set_in (noCyl_in h7 c3).1 (by decide))])⟩ hP hD (Nat.le_of_ble_eq_true rfl) (Nat.le_of_ble_eq_true rfl) dX12_valve_40
    refine lv_bipush (v := -2) hx hb dX12_valve_22 (by decide) ?_
    exact retI C hS a17 ⟨(by simp only [vl_r, if_pos h7, if_neg (nc_n h7 c3), if_pos (show r_c_within v 0 2 = 0 from (in_within v 0 2).symm.trans c4), (show r_c_get 6 a17 cy = a17 (cy.toNatClampNeg) from get_in (noCyl_in h7 c3).1 (by decide)), (show ∀ v9 : Int32, r_c_set 6 a17 cy v9 = upd a17 (cy.toNatClampNeg) v9 from fun v9 => set_in (noCyl_in h7 c3).1 (by decide))]), (by simp only [vl_f, if_pos h7, if_neg (nc_n h7 c3), if_pos (show r_c_within v 0 2 = 0 from (in_within v 0 2).symm.trans c4), (show r_c_get 6 a17 cy = a17 (cy.toNatClampNeg) from get_in (noCyl_in h7 c3).1 (by decide)), (show ∀ v9 : Int32, r_c_set 6 a17 cy v9 = upd a17 (cy.toNatClampNeg) v9 from fun v9 => set_in (noCyl_in h7 c3).1 (by decide))])⟩ hP hD (Nat.le_of_ble_eq_true rfl) (Nat.le_of_ble_eq_true rfl) dX12_valve_24
  refine lv_iconst (v := -1) hx hb dX12_valve_8 (by decide) ?_
  exact retI C hS a17 ⟨(by simp only [vl_r, if_pos h7, if_pos (nc_y h7 c3)]), (by simp only [vl_f, if_pos h7, if_pos (nc_y h7 c3)])⟩ hP hD (Nat.le_of_ble_eq_true rfl) (Nat.le_of_ble_eq_true rfl) dX12_valve_9
set_option maxRecDepth 100000 in
set_option maxHeartbeats 4000000 in
theorem v_fill (l : Launch) (g : Gt) (h0 : Nat) (q : Nat → Nat) (i : Nat → Int32) (L : Nat → Int64) (a11 : Nat → Int32) (a9 : Nat → Int32) (a10 : Nat → Int32) (a12 : Nat → Int32) (cy : Int32) (v : Int32) (h7 : 0 ≤ (i 7).toInt ∧ (i 7).toInt ≤ 6) (hM : MCI i a9 a10 a12) (hO : OB a11) : Ctr l g yX12_fill wsX12_fill ({ frames := 2, cells := 0, slots := 0, locals := 46 } : Room) [.ref h0, .int cy, .int v] [(h0, .inr (12, mO q i L)), ((q 11), .inl (g.2 0, 6, .inl a11)), ((q 9), .inl (g.2 0, 6, .inl a9)), ((q 10), .inl (g.2 0, 6, .inl a10)), ((q 12), .inl (g.2 0, 6, .inl a12))] (fun A => QI g A (fun r (u : (Nat → Int32)) => (OB u) ∧ (r = fi_r (i 7) (rmM a9 a10) a11 cy v) ∧ (u = fi_f (i 7) (rmM a9 a10) a11 cy v)) (fun (u : (Nat → Int32)) => [(h0, .inr (12, mO q i L)), ((q 11), .inl (g.2 0, 6, .inl u)), ((q 9), .inl (g.2 0, 6, .inl a9)), ((q 10), .inl (g.2 0, 6, .inl a10)), ((q 12), .inl (g.2 0, 6, .inl a12))])) := by
  refine Ctr.of (cc := cX12_fill) (maxL := 4) (ret := (some .int)) (by decide) rfl (Nat.le_of_ble_eq_true rfl) ?_
  intro p e s m below meth c A ls H C hP hD hA hS hl
  obtain ⟨hx, hb, hr, hts, hown, hlocks, hml, hin, hKN⟩ := id C
  have hK := hKN.1
  have hN := hKN.2
  have F : CallFix p m c cX12_fill 4 s _ wsX12_fill yX12_fill.cls := ⟨hx, hb, hml, hown, hts⟩
  have hl : lv_has ls 4 [(0, .ref h0), (1, .int cy), (2, .int v)] := hl
  refine lv_aload_n hx hb dX12_fill_0 rfl (lv_at hl 0 rfl) ?_
  refine lv_iload_n hx hb dX12_fill_1 rfl (lv_at hl 1 rfl) ?_
  refine kI (rnV (As := [.int cy]) (rest := []) (Cn := RX12) C (g_noCylinder l g h0 q i L cy) 1 gX12_fill_X12_noCylinder rfl (by decide +kernel) ⟨(Nat.le_of_ble_eq_true rfl), (Nat.le_of_ble_eq_true rfl)⟩ hP (k := 0) (ci := 12) rfl rfl rfl rfl hl.1 rfl (Nat.le_of_ble_eq_true rfl) dX12_fill_2 ⟨(Nat.le_of_ble_eq_true rfl), (Nat.le_of_ble_eq_true rfl)⟩) (spM0 [true, false, false, false, false] hP hD rfl) hA hS (fun r1 u2 H locs hw hP hD hS => ?_)
  have hre := hw
  replace hP : va_P g.1 vwCl [(h0, .inr (12, mO q i L)), ((q 11), .inl (g.2 0, 6, .inl a11)), ((q 9), .inl (g.2 0, 6, .inl a9)), ((q 10), .inl (g.2 0, 6, .inl a10)), ((q 12), .inl (g.2 0, 6, .inl a12))] H := hP
  replace hD : va_D A [(h0, .inr (12, mO q i L)), ((q 11), .inl (g.2 0, 6, .inl a11)), ((q 9), .inl (g.2 0, 6, .inl a9)), ((q 10), .inl (g.2 0, 6, .inl a10)), ((q 12), .inl (g.2 0, 6, .inl a12))] := hD
  refine nx_i (v := (r_g_noCylinder i cy)) hre ?_
  refine lv_if_eq (tgt := 10) hx hb dX12_fill_5 (by decide) (fun c3 => ?_) (fun c3 => ?_)
  · refine lv_iload_n hx hb dX12_fill_10 rfl (lv_at hl 2 rfl) ?_
    refine lv_i2l hx hb dX12_fill_11 rfl ?_
    refine lv_lconst (v := 0) hx hb dX12_fill_12 (by decide) ?_
    refine lv_aload_n hx hb dX12_fill_13 rfl (lv_at hl 0 rfl) ?_
    refine lv_iload_n hx hb dX12_fill_14 rfl (lv_at hl 1 rfl) ?_
    refine kI (rnV (As := [.int cy]) (rest := [.long 0, .long (Int32.toInt64 v)]) (Cn := RX12) C (g_room l g h0 q i L a9 a10 cy (noCyl_in h7 c3).1) 1 gX12_fill_X12_room rfl (by decide +kernel) ⟨(Nat.le_of_ble_eq_true rfl), (Nat.le_of_ble_eq_true rfl)⟩ hP (k := 0) (ci := 12) rfl rfl rfl rfl hl.1 rfl (Nat.le_of_ble_eq_true rfl) dX12_fill_15 ⟨(Nat.le_of_ble_eq_true rfl), (Nat.le_of_ble_eq_true rfl)⟩) (spM0 [true, false, true, true, false] hP hD rfl) hA hS (fun r4 u5 H locs hw hP hD hS => ?_)
    have hre := hw
    replace hP : va_P g.1 vwCl [(h0, .inr (12, mO q i L)), ((q 11), .inl (g.2 0, 6, .inl a11)), ((q 9), .inl (g.2 0, 6, .inl a9)), ((q 10), .inl (g.2 0, 6, .inl a10)), ((q 12), .inl (g.2 0, 6, .inl a12))] H := hP
    replace hD : va_D A [(h0, .inr (12, mO q i L)), ((q 11), .inl (g.2 0, 6, .inl a11)), ((q 9), .inl (g.2 0, 6, .inl a9)), ((q 10), .inl (g.2 0, 6, .inl a10)), ((q 12), .inl (g.2 0, 6, .inl a12))] := hD
    refine nx_i (v := ((a9 (cy.toNatClampNeg)) * (a10 (cy.toNatClampNeg)))) hre ?_
    refine lv_i2l hx hb dX12_fill_18 rfl ?_
    refine pureIS (As := [.long (Int32.toInt64 v), .long 0, .long (Int32.toInt64 ((a9 (cy.toNatClampNeg)) * (a10 (cy.toNatClampNeg))))]) (rest := []) F (c_in l (Int32.toInt64 v) 0 (Int32.toInt64 ((a9 (cy.toNatClampNeg)) * (a10 (cy.toNatClampNeg))))) 3 gX12_fill_X12_in rfl (by decide +kernel) rfl rfl ⟨(Nat.le_of_ble_eq_true rfl), (Nat.le_of_ble_eq_true rfl)⟩ (Nat.le_of_ble_eq_true rfl) (Nat.le_of_ble_eq_true rfl) rfl hl.1 rfl (Nat.le_of_ble_eq_true rfl) dX12_fill_19 ?_
    refine lv_if_ne (tgt := 28) hx hb dX12_fill_22 (by decide) (fun c6 => ?_) (fun c6 => ?_)
    · refine lv_aload_n hx hb dX12_fill_28 rfl (lv_at hl 0 rfl) ?_
      refine va_get (D := g.1) (ci := 12) (v := .ref (q 11)) (C := RX12) (T := TX12) (N := 66) hx hb hts hw_X12_fill_X12 hown hK hP 0 rfl rfl 11 (by decide) (hts (.fieldLink RX12 31 "OilPushModel" "oil" "[I") (List.mem_of_getElem? (i := 1) rfl)) (fun _ h => h) rfl dX12_fill_29 ?_
      refine lv_iload_n hx hb dX12_fill_32 rfl (lv_at hl 1 rfl) ?_
      refine va_iald hx hb hK hP 1 0 rfl rfl (noCyl_in h7 c3).1 dX12_fill_33 ?_
      refine lv_istore_n (lv' := [(3, .int (a11 (cy.toNatClampNeg))), (0, .ref h0), (1, .int cy), (2, .int v)]) hx hb dX12_fill_34 rfl hl (by decide) rfl (fun ls hl => ?_)
      refine lv_aload_n hx hb dX12_fill_35 rfl (lv_at hl 1 rfl) ?_
      refine va_get (D := g.1) (ci := 12) (v := .ref (q 11)) (C := RX12) (T := TX12) (N := 66) hx hb hts hw_X12_fill_X12 hown hK hP 0 rfl rfl 11 (by decide) (hts (.fieldLink RX12 31 "OilPushModel" "oil" "[I") (List.mem_of_getElem? (i := 1) rfl)) (fun _ h => h) rfl dX12_fill_36 ?_
      refine lv_iload_n hx hb dX12_fill_39 rfl (lv_at hl 2 rfl) ?_
      refine lv_iload_n hx hb dX12_fill_40 rfl (lv_at hl 3 rfl) ?_
      refine va_iast hx hb hK hP hD hS 1 0 rfl rfl (noCyl_in h7 c3).1 dX12_fill_41 (fun H locs hP hD hS => ?_)
      replace hP : va_P g.1 vwCl [(h0, .inr (12, mO q i L)), ((q 11), .inl (g.2 0, 6, .inl (upd a11 (cy.toNatClampNeg) v))), ((q 9), .inl (g.2 0, 6, .inl a9)), ((q 10), .inl (g.2 0, 6, .inl a10)), ((q 12), .inl (g.2 0, 6, .inl a12))] H := hP
      replace hD : va_D A [(h0, .inr (12, mO q i L)), ((q 11), .inl (g.2 0, 6, .inl (upd a11 (cy.toNatClampNeg) v))), ((q 9), .inl (g.2 0, 6, .inl a9)), ((q 10), .inl (g.2 0, 6, .inl a10)), ((q 12), .inl (g.2 0, 6, .inl a12))] := hD
      refine lv_iload_n hx hb dX12_fill_42 rfl (lv_at hl 0 rfl) ?_
      exact retI C hS (upd a11 (cy.toNatClampNeg) v) ⟨(OB_upd hO (room_30 hM (noCyl_in h7 c3).1 (noCyl_in h7 c3).2 c6)), (by simp only [fi_r, rmM, if_pos h7, if_pos hM, if_pos hO, if_neg (nc_n h7 c3), if_neg (show ¬ r_c_within v 0 ((a9 (cy.toNatClampNeg)) * (a10 (cy.toNatClampNeg))) = 0 from fun e9 => c6 ((in_within v 0 ((a9 (cy.toNatClampNeg)) * (a10 (cy.toNatClampNeg)))).trans e9)), (show r_c_get 6 a11 cy = a11 (cy.toNatClampNeg) from get_in (noCyl_in h7 c3).1 (by decide)), (show ∀ v9 : Int32, r_c_set 6 a11 cy v9 = upd a11 (cy.toNatClampNeg) v9 from fun v9 => set_in (noCyl_in h7 c3).1 (by decide))]), (by simp only [fi_f, rmM, if_pos h7, if_pos hM, if_pos hO, if_neg (nc_n h7 c3), if_neg (show ¬ r_c_within v 0 ((a9 (cy.toNatClampNeg)) * (a10 (cy.toNatClampNeg))) = 0 from fun e9 => c6 ((in_within v 0 ((a9 (cy.toNatClampNeg)) * (a10 (cy.toNatClampNeg)))).trans e9)), (show r_c_get 6 a11 cy = a11 (cy.toNatClampNeg) from get_in (noCyl_in h7 c3).1 (by decide)), (show ∀ v9 : Int32, r_c_set 6 a11 cy v9 = upd a11 (cy.toNatClampNeg) v9 from fun v9 => set_in (noCyl_in h7 c3).1 (by decide))])⟩ hP hD (Nat.le_of_ble_eq_true rfl) (Nat.le_of_ble_eq_true rfl) dX12_fill_43
    refine lv_bipush (v := -2) hx hb dX12_fill_25 (by decide) ?_
    exact retI C hS a11 ⟨hO, (by simp only [fi_r, rmM, if_pos h7, if_pos hM, if_pos hO, if_neg (nc_n h7 c3), if_pos (show r_c_within v 0 ((a9 (cy.toNatClampNeg)) * (a10 (cy.toNatClampNeg))) = 0 from (in_within v 0 ((a9 (cy.toNatClampNeg)) * (a10 (cy.toNatClampNeg)))).symm.trans c6), (show r_c_get 6 a11 cy = a11 (cy.toNatClampNeg) from get_in (noCyl_in h7 c3).1 (by decide)), (show ∀ v9 : Int32, r_c_set 6 a11 cy v9 = upd a11 (cy.toNatClampNeg) v9 from fun v9 => set_in (noCyl_in h7 c3).1 (by decide))]), (by simp only [fi_f, rmM, if_pos h7, if_pos hM, if_pos hO, if_neg (nc_n h7 c3), if_pos (show r_c_within v 0 ((a9 (cy.toNatClampNeg)) * (a10 (cy.toNatClampNeg))) = 0 from (in_within v 0 ((a9 (cy.toNatClampNeg)) * (a10 (cy.toNatClampNeg)))).symm.trans c6), (show r_c_get 6 a11 cy = a11 (cy.toNatClampNeg) from get_in (noCyl_in h7 c3).1 (by decide)), (show ∀ v9 : Int32, r_c_set 6 a11 cy v9 = upd a11 (cy.toNatClampNeg) v9 from fun v9 => set_in (noCyl_in h7 c3).1 (by decide))])⟩ hP hD (Nat.le_of_ble_eq_true rfl) (Nat.le_of_ble_eq_true rfl) dX12_fill_27
  refine lv_iconst (v := -1) hx hb dX12_fill_8 (by decide) ?_
  exact retI C hS a11 ⟨hO, (by simp only [fi_r, rmM, if_pos h7, if_pos hM, if_pos hO, if_pos (nc_y h7 c3)]), (by simp only [fi_f, rmM, if_pos h7, if_pos hM, if_pos hO, if_pos (nc_y h7 c3)])⟩ hP hD (Nat.le_of_ble_eq_true rfl) (Nat.le_of_ble_eq_true rfl) dX12_fill_9
set_option maxRecDepth 100000 in
set_option maxHeartbeats 4000000 in
theorem v_store (l : Launch) (g : Gt) (h0 : Nat) (q : Nat → Nat) (i : Nat → Int32) (L : Nat → Int64) (x1 : Int32) (x2 : Int32) (x3 : Int32) (h20 : 0 ≤ (i 20).toInt ∧ (i 20).toInt ≤ 5000) (h22 : ¬ (i 22) = 0) (hst : 0 < (i 22)) (hcp : (i 23).toInt ≤ (i 20).toInt) : Ctr l g yX12_store wsX12_store ({ frames := 1, cells := 0, slots := 0, locals := 25 } : Room) [.ref h0, .int x1, .int x2, .int x3] [(h0, .inr (12, mO q i L))] (fun A => QI g A (fun r (u : Int32 × Int32 × Int32) => (0 ≤ (u.1).toInt ∧ (u.1).toInt ≤ 5000) ∧ (¬ (u.2.2) = 0) ∧ (0 < u.2.2) ∧ ((i 23).toInt ≤ (u.1).toInt) ∧ (r = sx_r (i 23) x1 x2 x3) ∧ (u.1 = sx_u (i 23) x1 x2 x3 (i 20) x1) ∧ (u.2.1 = sx_u (i 23) x1 x2 x3 (i 21) x2) ∧ (u.2.2 = sx_u (i 23) x1 x2 x3 (i 22) x3)) (fun (u : Int32 × Int32 × Int32) => [(h0, .inr (12, mO q (upd (upd (upd i 20 u.1) 21 u.2.1) 22 u.2.2) L))])) := by
  refine Ctr.of (cc := cX12_store) (maxL := 4) (ret := (some .int)) (by decide) rfl (Nat.le_of_ble_eq_true rfl) ?_
  intro p e s m below meth c A ls H C hP hD hA hS hl
  obtain ⟨hx, hb, hr, hts, hown, hlocks, hml, hin, hKN⟩ := id C
  have hK := hKN.1
  have hN := hKN.2
  have F : CallFix p m c cX12_store 4 s _ wsX12_store yX12_store.cls := ⟨hx, hb, hml, hown, hts⟩
  have hl : lv_has ls 4 [(0, .ref h0), (1, .int x1), (2, .int x2), (3, .int x3)] := hl
  refine lv_iload_n hx hb dX12_store_0 rfl (lv_at hl 1 rfl) ?_
  refine lv_i2l hx hb dX12_store_1 rfl ?_
  refine lv_lconst (v := 0) hx hb dX12_store_2 (by decide) ?_
  refine lv_ldc2 (v := 5000) hx hb hown (hts (.constantLong RX12 201 (5000)) (List.mem_of_getElem? (i := 1) rfl)) dX12_store_3 ?_
  refine pureIS (As := [.long (Int32.toInt64 x1), .long 0, .long 5000]) (rest := []) F (c_in l (Int32.toInt64 x1) 0 5000) 3 gX12_store_X12_in rfl (by decide +kernel) rfl rfl ⟨(Nat.le_of_ble_eq_true rfl), (Nat.le_of_ble_eq_true rfl)⟩ (Nat.le_of_ble_eq_true rfl) (Nat.le_of_ble_eq_true rfl) rfl hl.1 rfl (Nat.le_of_ble_eq_true rfl) dX12_store_6 ?_
  refine lv_if_eq (tgt := 36) hx hb dX12_store_9 (by decide) (fun c1 => ?_) (fun c1 => ?_)
  · refine lv_bipush (v := -2) hx hb dX12_store_36 (by decide) ?_
    exact retI C hS ((i 20), (i 21), (i 22)) ⟨h20, h22, hst, hcp, (by simp only [sx_r, if_pos h20, if_neg h22, if_pos hst, if_pos hcp, if_pos (show r_c_within x1 0 5000 = 0 from (in_within x1 0 5000).symm.trans c1), if_neg (Int32.not_le.mpr hst)]), (by simp only [sx_u, if_pos h20, if_neg h22, if_pos hst, if_pos hcp, if_pos (show r_c_within x1 0 5000 = 0 from (in_within x1 0 5000).symm.trans c1), if_neg (Int32.not_le.mpr hst)]), (by simp only [sx_u, if_pos h20, if_neg h22, if_pos hst, if_pos hcp, if_pos (show r_c_within x1 0 5000 = 0 from (in_within x1 0 5000).symm.trans c1), if_neg (Int32.not_le.mpr hst)]), (by simp only [sx_u, if_pos h20, if_neg h22, if_pos hst, if_pos hcp, if_pos (show r_c_within x1 0 5000 = 0 from (in_within x1 0 5000).symm.trans c1), if_neg (Int32.not_le.mpr hst)])⟩ hP hD (Nat.le_of_ble_eq_true rfl) (Nat.le_of_ble_eq_true rfl) dX12_store_38
  refine lv_iload_n hx hb dX12_store_12 rfl (lv_at hl 2 rfl) ?_
  refine lv_i2l hx hb dX12_store_13 rfl ?_
  refine lv_lconst (v := 0) hx hb dX12_store_14 (by decide) ?_
  refine lv_ldc2 (v := 1000) hx hb hown (hts (.constantLong RX12 182 (1000)) (List.mem_of_getElem? (i := 2) rfl)) dX12_store_15 ?_
  refine pureIS (As := [.long (Int32.toInt64 x2), .long 0, .long 1000]) (rest := []) F (c_in l (Int32.toInt64 x2) 0 1000) 3 gX12_store_X12_in rfl (by decide +kernel) rfl rfl ⟨(Nat.le_of_ble_eq_true rfl), (Nat.le_of_ble_eq_true rfl)⟩ (Nat.le_of_ble_eq_true rfl) (Nat.le_of_ble_eq_true rfl) rfl hl.1 rfl (Nat.le_of_ble_eq_true rfl) dX12_store_18 ?_
  refine lv_if_eq (tgt := 36) hx hb dX12_store_21 (by decide) (fun c2 => ?_) (fun c2 => ?_)
  · refine lv_bipush (v := -2) hx hb dX12_store_36 (by decide) ?_
    exact retI C hS ((i 20), (i 21), (i 22)) ⟨h20, h22, hst, hcp, (by simp only [sx_r, if_pos h20, if_neg h22, if_pos hst, if_pos hcp, if_neg (show ¬ r_c_within x1 0 5000 = 0 from fun e9 => c1 ((in_within x1 0 5000).trans e9)), if_pos (show r_c_within x2 0 1000 = 0 from (in_within x2 0 1000).symm.trans c2), if_neg (Int32.not_le.mpr hst)]), (by simp only [sx_u, if_pos h20, if_neg h22, if_pos hst, if_pos hcp, if_neg (show ¬ r_c_within x1 0 5000 = 0 from fun e9 => c1 ((in_within x1 0 5000).trans e9)), if_pos (show r_c_within x2 0 1000 = 0 from (in_within x2 0 1000).symm.trans c2), if_neg (Int32.not_le.mpr hst)]), (by simp only [sx_u, if_pos h20, if_neg h22, if_pos hst, if_pos hcp, if_neg (show ¬ r_c_within x1 0 5000 = 0 from fun e9 => c1 ((in_within x1 0 5000).trans e9)), if_pos (show r_c_within x2 0 1000 = 0 from (in_within x2 0 1000).symm.trans c2), if_neg (Int32.not_le.mpr hst)]), (by simp only [sx_u, if_pos h20, if_neg h22, if_pos hst, if_pos hcp, if_neg (show ¬ r_c_within x1 0 5000 = 0 from fun e9 => c1 ((in_within x1 0 5000).trans e9)), if_pos (show r_c_within x2 0 1000 = 0 from (in_within x2 0 1000).symm.trans c2), if_neg (Int32.not_le.mpr hst)])⟩ hP hD (Nat.le_of_ble_eq_true rfl) (Nat.le_of_ble_eq_true rfl) dX12_store_38
  refine lv_iload_n hx hb dX12_store_24 rfl (lv_at hl 3 rfl) ?_
  refine lv_i2l hx hb dX12_store_25 rfl ?_
  refine lv_lconst (v := 1) hx hb dX12_store_26 (by decide) ?_
  refine lv_ldc2 (v := 100) hx hb hown (hts (.constantLong RX12 187 (100)) (List.mem_of_getElem? (i := 3) rfl)) dX12_store_27 ?_
  refine pureIS (As := [.long (Int32.toInt64 x3), .long 1, .long 100]) (rest := []) F (c_in l (Int32.toInt64 x3) 1 100) 3 gX12_store_X12_in rfl (by decide +kernel) rfl rfl ⟨(Nat.le_of_ble_eq_true rfl), (Nat.le_of_ble_eq_true rfl)⟩ (Nat.le_of_ble_eq_true rfl) (Nat.le_of_ble_eq_true rfl) rfl hl.1 rfl (Nat.le_of_ble_eq_true rfl) dX12_store_30 ?_
  refine lv_if_ne (tgt := 39) hx hb dX12_store_33 (by decide) (fun c3 => ?_) (fun c3 => ?_)
  · refine lv_aload_n hx hb dX12_store_39 rfl (lv_at hl 0 rfl) ?_
    refine va_get (D := g.1) (ci := 12) (v := .int (i 23)) (C := RX12) (T := TX12) (N := 66) hx hb hts hw_X12_store_X12 hown hK hP 0 rfl rfl 23 (by decide) (hts (.fieldLink RX12 203 "OilPushModel" "kept" "I") (List.mem_of_getElem? (i := 4) rfl)) (fun _ h => h) rfl dX12_store_40 ?_
    refine lv_iload_n hx hb dX12_store_43 rfl (lv_at hl 1 rfl) ?_
    refine lv_icmp_le (tgt := 50) hx hb dX12_store_44 (by decide) (fun c4 => ?_) (fun c4 => ?_)
    · refine lv_aload_n hx hb dX12_store_50 rfl (lv_at hl 0 rfl) ?_
      refine lv_iload_n hx hb dX12_store_51 rfl (lv_at hl 1 rfl) ?_
      refine va_put (D := g.1) (ci := 12) (v := .int x1) (ty := .int) (C := RX12) (T := TX12) (N := 66) hx hb hts hw_X12_store_X12 tyX12 tyX12_ok nmX12 hown hK hP hD hS 0 rfl rfl 20 (by decide) (hts (.fieldLink RX12 206 "OilPushModel" "cap" "I") (List.mem_of_getElem? (i := 5) rfl)) (fun _ h => h) rfl (by decide +kernel) rfl rfl (Nat.le_of_ble_eq_true rfl) dX12_store_52 (fun H locs hP hD hS => ?_)
      replace hP : va_P g.1 vwCl [(h0, .inr (12, mO q (upd i 20 x1) L))] H := hP
      replace hD : va_D A [(h0, .inr (12, mO q (upd i 20 x1) L))] := hD
      refine lv_aload_n hx hb dX12_store_55 rfl (lv_at hl 0 rfl) ?_
      refine lv_iload_n hx hb dX12_store_56 rfl (lv_at hl 2 rfl) ?_
      refine va_put (D := g.1) (ci := 12) (v := .int x2) (ty := .int) (C := RX12) (T := TX12) (N := 66) hx hb hts hw_X12_store_X12 tyX12 tyX12_ok nmX12 hown hK hP hD hS 0 rfl rfl 21 (by decide) (hts (.fieldLink RX12 209 "OilPushModel" "first" "I") (List.mem_of_getElem? (i := 6) rfl)) (fun _ h => h) rfl (by decide +kernel) rfl rfl (Nat.le_of_ble_eq_true rfl) dX12_store_57 (fun H locs hP hD hS => ?_)
      replace hP : va_P g.1 vwCl [(h0, .inr (12, mO q (upd (upd i 20 x1) 21 x2) L))] H := hP
      replace hD : va_D A [(h0, .inr (12, mO q (upd (upd i 20 x1) 21 x2) L))] := hD
      refine lv_aload_n hx hb dX12_store_60 rfl (lv_at hl 0 rfl) ?_
      refine lv_iload_n hx hb dX12_store_61 rfl (lv_at hl 3 rfl) ?_
      refine va_put (D := g.1) (ci := 12) (v := .int x3) (ty := .int) (C := RX12) (T := TX12) (N := 66) hx hb hts hw_X12_store_X12 tyX12 tyX12_ok nmX12 hown hK hP hD hS 0 rfl rfl 22 (by decide) (hts (.fieldLink RX12 133 "OilPushModel" "stiff" "I") (List.mem_of_getElem? (i := 7) rfl)) (fun _ h => h) rfl (by decide +kernel) rfl rfl (Nat.le_of_ble_eq_true rfl) dX12_store_62 (fun H locs hP hD hS => ?_)
      replace hP : va_P g.1 vwCl [(h0, .inr (12, mO q (upd (upd (upd i 20 x1) 21 x2) 22 x3) L))] H := hP
      replace hD : va_D A [(h0, .inr (12, mO q (upd (upd (upd i 20 x1) 21 x2) 22 x3) L))] := hD
      refine lv_iconst (v := 1) hx hb dX12_store_65 (by decide) ?_
      exact retI C hS (x1, x2, x3) ⟨(in_l c1), (st_ne c3), (st_pos c3), (Int32.le_iff_toInt_le.mp c4), (by simp only [sx_r, if_pos h20, if_neg h22, if_pos hst, if_pos hcp, if_neg (show ¬ r_c_within x1 0 5000 = 0 from fun e9 => c1 ((in_within x1 0 5000).trans e9)), if_neg (show ¬ r_c_within x2 0 1000 = 0 from fun e9 => c2 ((in_within x2 0 1000).trans e9)), if_neg (show ¬ r_c_within x3 1 100 = 0 from fun e9 => c3 ((in_within x3 1 100).trans e9)), if_pos c4, if_neg (Int32.not_le.mpr hst), if_neg (Int32.not_lt.mpr c4)]), (by simp only [sx_u, if_pos h20, if_neg h22, if_pos hst, if_pos hcp, if_neg (show ¬ r_c_within x1 0 5000 = 0 from fun e9 => c1 ((in_within x1 0 5000).trans e9)), if_neg (show ¬ r_c_within x2 0 1000 = 0 from fun e9 => c2 ((in_within x2 0 1000).trans e9)), if_neg (show ¬ r_c_within x3 1 100 = 0 from fun e9 => c3 ((in_within x3 1 100).trans e9)), if_pos c4, if_neg (Int32.not_le.mpr hst), if_neg (Int32.not_lt.mpr c4)]), (by simp only [sx_u, if_pos h20, if_neg h22, if_pos hst, if_pos hcp, if_neg (show ¬ r_c_within x1 0 5000 = 0 from fun e9 => c1 ((in_within x1 0 5000).trans e9)), if_neg (show ¬ r_c_within x2 0 1000 = 0 from fun e9 => c2 ((in_within x2 0 1000).trans e9)), if_neg (show ¬ r_c_within x3 1 100 = 0 from fun e9 => c3 ((in_within x3 1 100).trans e9)), if_pos c4, if_neg (Int32.not_le.mpr hst), if_neg (Int32.not_lt.mpr c4)]), (by simp only [sx_u, if_pos h20, if_neg h22, if_pos hst, if_pos hcp, if_neg (show ¬ r_c_within x1 0 5000 = 0 from fun e9 => c1 ((in_within x1 0 5000).trans e9)), if_neg (show ¬ r_c_within x2 0 1000 = 0 from fun e9 => c2 ((in_within x2 0 1000).trans e9)), if_neg (show ¬ r_c_within x3 1 100 = 0 from fun e9 => c3 ((in_within x3 1 100).trans e9)), if_pos c4, if_neg (Int32.not_le.mpr hst), if_neg (Int32.not_lt.mpr c4)])⟩ hP hD (Nat.le_of_ble_eq_true rfl) (Nat.le_of_ble_eq_true rfl) dX12_store_66
    refine lv_bipush (v := -3) hx hb dX12_store_47 (by decide) ?_
    exact retI C hS ((i 20), (i 21), (i 22)) ⟨h20, h22, hst, hcp, (by simp only [sx_r, if_pos h20, if_neg h22, if_pos hst, if_pos hcp, if_neg (show ¬ r_c_within x1 0 5000 = 0 from fun e9 => c1 ((in_within x1 0 5000).trans e9)), if_neg (show ¬ r_c_within x2 0 1000 = 0 from fun e9 => c2 ((in_within x2 0 1000).trans e9)), if_neg (show ¬ r_c_within x3 1 100 = 0 from fun e9 => c3 ((in_within x3 1 100).trans e9)), if_neg c4, if_neg (Int32.not_le.mpr hst), if_pos (Int32.not_le.mp c4)]), (by simp only [sx_u, if_pos h20, if_neg h22, if_pos hst, if_pos hcp, if_neg (show ¬ r_c_within x1 0 5000 = 0 from fun e9 => c1 ((in_within x1 0 5000).trans e9)), if_neg (show ¬ r_c_within x2 0 1000 = 0 from fun e9 => c2 ((in_within x2 0 1000).trans e9)), if_neg (show ¬ r_c_within x3 1 100 = 0 from fun e9 => c3 ((in_within x3 1 100).trans e9)), if_neg c4, if_neg (Int32.not_le.mpr hst), if_pos (Int32.not_le.mp c4)]), (by simp only [sx_u, if_pos h20, if_neg h22, if_pos hst, if_pos hcp, if_neg (show ¬ r_c_within x1 0 5000 = 0 from fun e9 => c1 ((in_within x1 0 5000).trans e9)), if_neg (show ¬ r_c_within x2 0 1000 = 0 from fun e9 => c2 ((in_within x2 0 1000).trans e9)), if_neg (show ¬ r_c_within x3 1 100 = 0 from fun e9 => c3 ((in_within x3 1 100).trans e9)), if_neg c4, if_neg (Int32.not_le.mpr hst), if_pos (Int32.not_le.mp c4)]), (by simp only [sx_u, if_pos h20, if_neg h22, if_pos hst, if_pos hcp, if_neg (show ¬ r_c_within x1 0 5000 = 0 from fun e9 => c1 ((in_within x1 0 5000).trans e9)), if_neg (show ¬ r_c_within x2 0 1000 = 0 from fun e9 => c2 ((in_within x2 0 1000).trans e9)), if_neg (show ¬ r_c_within x3 1 100 = 0 from fun e9 => c3 ((in_within x3 1 100).trans e9)), if_neg c4, if_neg (Int32.not_le.mpr hst), if_pos (Int32.not_le.mp c4)])⟩ hP hD (Nat.le_of_ble_eq_true rfl) (Nat.le_of_ble_eq_true rfl) dX12_store_49
  refine lv_bipush (v := -2) hx hb dX12_store_36 (by decide) ?_
  exact retI C hS ((i 20), (i 21), (i 22)) ⟨h20, h22, hst, hcp, (by simp only [sx_r, if_pos h20, if_neg h22, if_pos hst, if_pos hcp, if_neg (show ¬ r_c_within x1 0 5000 = 0 from fun e9 => c1 ((in_within x1 0 5000).trans e9)), if_neg (show ¬ r_c_within x2 0 1000 = 0 from fun e9 => c2 ((in_within x2 0 1000).trans e9)), if_pos (show r_c_within x3 1 100 = 0 from (in_within x3 1 100).symm.trans c3), if_neg (Int32.not_le.mpr hst)]), (by simp only [sx_u, if_pos h20, if_neg h22, if_pos hst, if_pos hcp, if_neg (show ¬ r_c_within x1 0 5000 = 0 from fun e9 => c1 ((in_within x1 0 5000).trans e9)), if_neg (show ¬ r_c_within x2 0 1000 = 0 from fun e9 => c2 ((in_within x2 0 1000).trans e9)), if_pos (show r_c_within x3 1 100 = 0 from (in_within x3 1 100).symm.trans c3), if_neg (Int32.not_le.mpr hst)]), (by simp only [sx_u, if_pos h20, if_neg h22, if_pos hst, if_pos hcp, if_neg (show ¬ r_c_within x1 0 5000 = 0 from fun e9 => c1 ((in_within x1 0 5000).trans e9)), if_neg (show ¬ r_c_within x2 0 1000 = 0 from fun e9 => c2 ((in_within x2 0 1000).trans e9)), if_pos (show r_c_within x3 1 100 = 0 from (in_within x3 1 100).symm.trans c3), if_neg (Int32.not_le.mpr hst)]), (by simp only [sx_u, if_pos h20, if_neg h22, if_pos hst, if_pos hcp, if_neg (show ¬ r_c_within x1 0 5000 = 0 from fun e9 => c1 ((in_within x1 0 5000).trans e9)), if_neg (show ¬ r_c_within x2 0 1000 = 0 from fun e9 => c2 ((in_within x2 0 1000).trans e9)), if_pos (show r_c_within x3 1 100 = 0 from (in_within x3 1 100).symm.trans c3), if_neg (Int32.not_le.mpr hst)])⟩ hP hD (Nat.le_of_ble_eq_true rfl) (Nat.le_of_ble_eq_true rfl) dX12_store_38
theorem cl_lt {x : Int32} {n : Nat} (h : vp_in x n) : x.toNatClampNeg < n := by
  have := vp_in_iff.mp h
  show x.toInt.toNat < n
  omega
set_option maxRecDepth 100000 in
set_option maxHeartbeats 4000000 in
theorem v_about (l : Launch) (g : Gt) (h0 : Nat) (q : Nat → Nat) (i : Nat → Int32) (L : Nat → Int64) (a11 : Nat → Int32) (a12 : Nat → Int32) (a9 : Nat → Int32) (a10 : Nat → Int32) (a13 : Nat → Int32) (a8 : Nat → Int32) (a14 : Nat → Int32) (a17 : Nat → Int32) (a18 : Nat → Int32) (a19 : Nat → Int32) (cy : Int32) (what : Int32) (h7 : 0 ≤ (i 7).toInt ∧ (i 7).toInt ≤ 6) (hM : MCI i a9 a10 a12) (hO : OB a11) (hb6 : B6 a18) : Ctr l g yX12_about wsX12_about ({ frames := 3, cells := 0, slots := 0, locals := 65 } : Room) [.ref h0, .int cy, .int what] [(h0, .inr (12, mO q i L)), ((q 11), .inl (g.2 0, 6, .inl a11)), ((q 12), .inl (g.2 0, 6, .inl a12)), ((q 9), .inl (g.2 0, 6, .inl a9)), ((q 10), .inl (g.2 0, 6, .inl a10)), ((q 13), .inl (g.2 0, 60, .inl a13)), ((q 8), .inl (g.2 0, 6, .inl a8)), ((q 14), .inl (g.2 0, 6, .inl a14)), ((q 17), .inl (g.2 0, 6, .inl a17)), ((q 18), .inl (g.2 1, 6, .inl a18)), ((q 19), .inl (g.2 0, 6, .inl a19))] (fun A => QI g A (fun r (u : Unit) => (r = ab_r (i 7) a8 a9 a10 a12 a11 a17 a18 a19 (ldM a9 a10 a12 a13) (ndM a8 a9 a10 a12 a14 a13) cy what)) (fun (u : Unit) => [(h0, .inr (12, mO q i L)), ((q 11), .inl (g.2 0, 6, .inl a11)), ((q 12), .inl (g.2 0, 6, .inl a12)), ((q 9), .inl (g.2 0, 6, .inl a9)), ((q 10), .inl (g.2 0, 6, .inl a10)), ((q 13), .inl (g.2 0, 60, .inl a13)), ((q 8), .inl (g.2 0, 6, .inl a8)), ((q 14), .inl (g.2 0, 6, .inl a14)), ((q 17), .inl (g.2 0, 6, .inl a17)), ((q 18), .inl (g.2 1, 6, .inl a18)), ((q 19), .inl (g.2 0, 6, .inl a19))])) := by
  refine Ctr.of (cc := cX12_about) (maxL := 3) (ret := (some .int)) (by decide) rfl (Nat.le_of_ble_eq_true rfl) ?_
  intro p e s m below meth c A ls H C hP hD hA hS hl
  obtain ⟨hx, hb, hr, hts, hown, hlocks, hml, hin, hKN⟩ := id C
  have hK := hKN.1
  have hN := hKN.2
  have F : CallFix p m c cX12_about 3 s _ wsX12_about yX12_about.cls := ⟨hx, hb, hml, hown, hts⟩
  have hl : lv_has ls 3 [(0, .ref h0), (1, .int cy), (2, .int what)] := hl
  refine lv_aload_n hx hb dX12_about_0 rfl (lv_at hl 0 rfl) ?_
  refine lv_iload_n hx hb dX12_about_1 rfl (lv_at hl 1 rfl) ?_
  refine kI (rnV (As := [.int cy]) (rest := []) (Cn := RX12) C (g_noCylinder l g h0 q i L cy) 1 gX12_about_X12_noCylinder rfl (by decide +kernel) ⟨(Nat.le_of_ble_eq_true rfl), (Nat.le_of_ble_eq_true rfl)⟩ hP (k := 0) (ci := 12) rfl rfl rfl rfl hl.1 rfl (Nat.le_of_ble_eq_true rfl) dX12_about_2 ⟨(Nat.le_of_ble_eq_true rfl), (Nat.le_of_ble_eq_true rfl)⟩) (spM0 [true, false, false, false, false, false, false, false, false, false, false] hP hD rfl) hA hS (fun r1 u2 H locs hw hP hD hS => ?_)
  have hre := hw
  replace hP : va_P g.1 vwCl [(h0, .inr (12, mO q i L)), ((q 11), .inl (g.2 0, 6, .inl a11)), ((q 12), .inl (g.2 0, 6, .inl a12)), ((q 9), .inl (g.2 0, 6, .inl a9)), ((q 10), .inl (g.2 0, 6, .inl a10)), ((q 13), .inl (g.2 0, 60, .inl a13)), ((q 8), .inl (g.2 0, 6, .inl a8)), ((q 14), .inl (g.2 0, 6, .inl a14)), ((q 17), .inl (g.2 0, 6, .inl a17)), ((q 18), .inl (g.2 1, 6, .inl a18)), ((q 19), .inl (g.2 0, 6, .inl a19))] H := hP
  replace hD : va_D A [(h0, .inr (12, mO q i L)), ((q 11), .inl (g.2 0, 6, .inl a11)), ((q 12), .inl (g.2 0, 6, .inl a12)), ((q 9), .inl (g.2 0, 6, .inl a9)), ((q 10), .inl (g.2 0, 6, .inl a10)), ((q 13), .inl (g.2 0, 60, .inl a13)), ((q 8), .inl (g.2 0, 6, .inl a8)), ((q 14), .inl (g.2 0, 6, .inl a14)), ((q 17), .inl (g.2 0, 6, .inl a17)), ((q 18), .inl (g.2 1, 6, .inl a18)), ((q 19), .inl (g.2 0, 6, .inl a19))] := hD
  refine nx_i (v := (r_g_noCylinder i cy)) hre ?_
  refine lv_if_eq (tgt := 10) hx hb dX12_about_5 (by decide) (fun c3 => ?_) (fun c3 => ?_)
  · refine lv_iload_n hx hb dX12_about_10 rfl (lv_at hl 2 rfl) ?_
    by_cases w4 : what = 0
    · refine lv_tableIn (tgt := 64) (off := 53) hx hb dX12_about_11 (by rw [w4]; decide) (by rw [w4]; decide) (by rw [w4]; rfl) (by decide) ?_
      refine lv_aload_n hx hb dX12_about_64 rfl (lv_at hl 0 rfl) ?_
      refine va_get (D := g.1) (ci := 12) (v := .ref (q 8)) (C := RX12) (T := TX12) (N := 66) hx hb hts hw_X12_about_X12 hown hK hP 0 rfl rfl 8 (by decide) (hts (.fieldLink RX12 22 "OilPushModel" "kind" "[I") (List.mem_of_getElem? (i := 1) rfl)) (fun _ h => h) rfl dX12_about_65 ?_
      refine lv_iload_n hx hb dX12_about_68 rfl (lv_at hl 1 rfl) ?_
      refine va_iald hx hb hK hP 6 0 rfl rfl (noCyl_in h7 c3).1 dX12_about_69 ?_
      exact retI C hS () (by simp only [ab_r, if_pos h7, if_pos hM, if_pos hO, if_pos hb6, if_neg (nc_n h7 c3), if_pos w4, if_neg (ne01 w4), (show r_c_get 6 a11 cy = a11 (cy.toNatClampNeg) from get_in (noCyl_in h7 c3).1 (by decide)), (show ∀ v9 : Int32, r_c_set 6 a11 cy v9 = upd a11 (cy.toNatClampNeg) v9 from fun v9 => set_in (noCyl_in h7 c3).1 (by decide)), (show r_c_get 6 a17 cy = a17 (cy.toNatClampNeg) from get_in (noCyl_in h7 c3).1 (by decide)), (show ∀ v9 : Int32, r_c_set 6 a17 cy v9 = upd a17 (cy.toNatClampNeg) v9 from fun v9 => set_in (noCyl_in h7 c3).1 (by decide)), (show r_c_get 6 a18 cy = a18 (cy.toNatClampNeg) from get_in (noCyl_in h7 c3).1 (by decide)), (show ∀ v9 : Int32, r_c_set 6 a18 cy v9 = upd a18 (cy.toNatClampNeg) v9 from fun v9 => set_in (noCyl_in h7 c3).1 (by decide)), (show r_c_get 6 a19 cy = a19 (cy.toNatClampNeg) from get_in (noCyl_in h7 c3).1 (by decide)), (show ∀ v9 : Int32, r_c_set 6 a19 cy v9 = upd a19 (cy.toNatClampNeg) v9 from fun v9 => set_in (noCyl_in h7 c3).1 (by decide))]) hP hD (Nat.le_of_ble_eq_true rfl) (Nat.le_of_ble_eq_true rfl) dX12_about_70
    by_cases w5 : what = 1
    · refine lv_tableIn (tgt := 71) (off := 60) hx hb dX12_about_11 (by rw [w5]; decide) (by rw [w5]; decide) (by rw [w5]; rfl) (by decide) ?_
      refine lv_aload_n hx hb dX12_about_71 rfl (lv_at hl 0 rfl) ?_
      refine va_get (D := g.1) (ci := 12) (v := .ref (q 9)) (C := RX12) (T := TX12) (N := 66) hx hb hts hw_X12_about_X12 hown hK hP 0 rfl rfl 9 (by decide) (hts (.fieldLink RX12 25 "OilPushModel" "area" "[I") (List.mem_of_getElem? (i := 2) rfl)) (fun _ h => h) rfl dX12_about_72 ?_
      refine lv_iload_n hx hb dX12_about_75 rfl (lv_at hl 1 rfl) ?_
      refine va_iald hx hb hK hP 3 0 rfl rfl (noCyl_in h7 c3).1 dX12_about_76 ?_
      exact retI C hS () (by simp only [ab_r, if_pos h7, if_pos hM, if_pos hO, if_pos hb6, if_neg (nc_n h7 c3), if_neg w4, if_pos w5, if_neg (ne10 w5), (show r_c_get 6 a11 cy = a11 (cy.toNatClampNeg) from get_in (noCyl_in h7 c3).1 (by decide)), (show ∀ v9 : Int32, r_c_set 6 a11 cy v9 = upd a11 (cy.toNatClampNeg) v9 from fun v9 => set_in (noCyl_in h7 c3).1 (by decide)), (show r_c_get 6 a17 cy = a17 (cy.toNatClampNeg) from get_in (noCyl_in h7 c3).1 (by decide)), (show ∀ v9 : Int32, r_c_set 6 a17 cy v9 = upd a17 (cy.toNatClampNeg) v9 from fun v9 => set_in (noCyl_in h7 c3).1 (by decide)), (show r_c_get 6 a18 cy = a18 (cy.toNatClampNeg) from get_in (noCyl_in h7 c3).1 (by decide)), (show ∀ v9 : Int32, r_c_set 6 a18 cy v9 = upd a18 (cy.toNatClampNeg) v9 from fun v9 => set_in (noCyl_in h7 c3).1 (by decide)), (show r_c_get 6 a19 cy = a19 (cy.toNatClampNeg) from get_in (noCyl_in h7 c3).1 (by decide)), (show ∀ v9 : Int32, r_c_set 6 a19 cy v9 = upd a19 (cy.toNatClampNeg) v9 from fun v9 => set_in (noCyl_in h7 c3).1 (by decide))]) hP hD (Nat.le_of_ble_eq_true rfl) (Nat.le_of_ble_eq_true rfl) dX12_about_77
    by_cases w6 : what = 2
    · refine lv_tableIn (tgt := 78) (off := 67) hx hb dX12_about_11 (by rw [w6]; decide) (by rw [w6]; decide) (by rw [w6]; rfl) (by decide) ?_
      refine lv_aload_n hx hb dX12_about_78 rfl (lv_at hl 0 rfl) ?_
      refine va_get (D := g.1) (ci := 12) (v := .ref (q 10)) (C := RX12) (T := TX12) (N := 66) hx hb hts hw_X12_about_X12 hown hK hP 0 rfl rfl 10 (by decide) (hts (.fieldLink RX12 28 "OilPushModel" "stroke" "[I") (List.mem_of_getElem? (i := 3) rfl)) (fun _ h => h) rfl dX12_about_79 ?_
      refine lv_iload_n hx hb dX12_about_82 rfl (lv_at hl 1 rfl) ?_
      refine va_iald hx hb hK hP 4 0 rfl rfl (noCyl_in h7 c3).1 dX12_about_83 ?_
      exact retI C hS () (by simp only [ab_r, if_pos h7, if_pos hM, if_pos hO, if_pos hb6, if_neg (nc_n h7 c3), if_neg w4, if_neg w5, if_pos w6, (show r_c_get 6 a11 cy = a11 (cy.toNatClampNeg) from get_in (noCyl_in h7 c3).1 (by decide)), (show ∀ v9 : Int32, r_c_set 6 a11 cy v9 = upd a11 (cy.toNatClampNeg) v9 from fun v9 => set_in (noCyl_in h7 c3).1 (by decide)), (show r_c_get 6 a17 cy = a17 (cy.toNatClampNeg) from get_in (noCyl_in h7 c3).1 (by decide)), (show ∀ v9 : Int32, r_c_set 6 a17 cy v9 = upd a17 (cy.toNatClampNeg) v9 from fun v9 => set_in (noCyl_in h7 c3).1 (by decide)), (show r_c_get 6 a18 cy = a18 (cy.toNatClampNeg) from get_in (noCyl_in h7 c3).1 (by decide)), (show ∀ v9 : Int32, r_c_set 6 a18 cy v9 = upd a18 (cy.toNatClampNeg) v9 from fun v9 => set_in (noCyl_in h7 c3).1 (by decide)), (show r_c_get 6 a19 cy = a19 (cy.toNatClampNeg) from get_in (noCyl_in h7 c3).1 (by decide)), (show ∀ v9 : Int32, r_c_set 6 a19 cy v9 = upd a19 (cy.toNatClampNeg) v9 from fun v9 => set_in (noCyl_in h7 c3).1 (by decide))]) hP hD (Nat.le_of_ble_eq_true rfl) (Nat.le_of_ble_eq_true rfl) dX12_about_84
    by_cases w7 : what = 3
    · refine lv_tableIn (tgt := 85) (off := 74) hx hb dX12_about_11 (by rw [w7]; decide) (by rw [w7]; decide) (by rw [w7]; rfl) (by decide) ?_
      refine lv_aload_n hx hb dX12_about_85 rfl (lv_at hl 0 rfl) ?_
      refine va_get (D := g.1) (ci := 12) (v := .ref (q 11)) (C := RX12) (T := TX12) (N := 66) hx hb hts hw_X12_about_X12 hown hK hP 0 rfl rfl 11 (by decide) (hts (.fieldLink RX12 31 "OilPushModel" "oil" "[I") (List.mem_of_getElem? (i := 4) rfl)) (fun _ h => h) rfl dX12_about_86 ?_
      refine lv_iload_n hx hb dX12_about_89 rfl (lv_at hl 1 rfl) ?_
      refine va_iald hx hb hK hP 1 0 rfl rfl (noCyl_in h7 c3).1 dX12_about_90 ?_
      exact retI C hS () (by simp only [ab_r, if_pos h7, if_pos hM, if_pos hO, if_pos hb6, if_neg (nc_n h7 c3), if_neg w4, if_neg w5, if_neg w6, if_pos w7, (show r_c_get 6 a11 cy = a11 (cy.toNatClampNeg) from get_in (noCyl_in h7 c3).1 (by decide)), (show ∀ v9 : Int32, r_c_set 6 a11 cy v9 = upd a11 (cy.toNatClampNeg) v9 from fun v9 => set_in (noCyl_in h7 c3).1 (by decide)), (show r_c_get 6 a17 cy = a17 (cy.toNatClampNeg) from get_in (noCyl_in h7 c3).1 (by decide)), (show ∀ v9 : Int32, r_c_set 6 a17 cy v9 = upd a17 (cy.toNatClampNeg) v9 from fun v9 => set_in (noCyl_in h7 c3).1 (by decide)), (show r_c_get 6 a18 cy = a18 (cy.toNatClampNeg) from get_in (noCyl_in h7 c3).1 (by decide)), (show ∀ v9 : Int32, r_c_set 6 a18 cy v9 = upd a18 (cy.toNatClampNeg) v9 from fun v9 => set_in (noCyl_in h7 c3).1 (by decide)), (show r_c_get 6 a19 cy = a19 (cy.toNatClampNeg) from get_in (noCyl_in h7 c3).1 (by decide)), (show ∀ v9 : Int32, r_c_set 6 a19 cy v9 = upd a19 (cy.toNatClampNeg) v9 from fun v9 => set_in (noCyl_in h7 c3).1 (by decide))]) hP hD (Nat.le_of_ble_eq_true rfl) (Nat.le_of_ble_eq_true rfl) dX12_about_91
    by_cases w8 : what = 4
    · refine lv_tableIn (tgt := 92) (off := 81) hx hb dX12_about_11 (by rw [w8]; decide) (by rw [w8]; decide) (by rw [w8]; rfl) (by decide) ?_
      refine lv_aload_n hx hb dX12_about_92 rfl (lv_at hl 0 rfl) ?_
      refine lv_iload_n hx hb dX12_about_93 rfl (lv_at hl 1 rfl) ?_
      refine kI (rnV (As := [.int cy]) (rest := []) (Cn := RX12) C (v_loadOf l g h0 q i L a11 a12 a9 a10 a13 cy hM hO (noCyl_in h7 c3).1 (noCyl_in h7 c3).2) 1 gX12_about_X12_loadOf rfl (by decide +kernel) ⟨(Nat.le_of_ble_eq_true rfl), (Nat.le_of_ble_eq_true rfl)⟩ hP (k := 0) (ci := 12) rfl rfl rfl rfl hl.1 rfl (Nat.le_of_ble_eq_true rfl) dX12_about_94 ⟨(Nat.le_of_ble_eq_true rfl), (Nat.le_of_ble_eq_true rfl)⟩) (spM0 [true, true, true, true, true, true, false, false, false, false, false] hP hD rfl) hA hS (fun r9 u10 H locs hw hP hD hS => ?_)
      have hre := hw
      replace hP : va_P g.1 vwCl [(h0, .inr (12, mO q i L)), ((q 11), .inl (g.2 0, 6, .inl a11)), ((q 12), .inl (g.2 0, 6, .inl a12)), ((q 9), .inl (g.2 0, 6, .inl a9)), ((q 10), .inl (g.2 0, 6, .inl a10)), ((q 13), .inl (g.2 0, 60, .inl a13)), ((q 8), .inl (g.2 0, 6, .inl a8)), ((q 14), .inl (g.2 0, 6, .inl a14)), ((q 17), .inl (g.2 0, 6, .inl a17)), ((q 18), .inl (g.2 1, 6, .inl a18)), ((q 19), .inl (g.2 0, 6, .inl a19))] H := hP
      replace hD : va_D A [(h0, .inr (12, mO q i L)), ((q 11), .inl (g.2 0, 6, .inl a11)), ((q 12), .inl (g.2 0, 6, .inl a12)), ((q 9), .inl (g.2 0, 6, .inl a9)), ((q 10), .inl (g.2 0, 6, .inl a10)), ((q 13), .inl (g.2 0, 60, .inl a13)), ((q 8), .inl (g.2 0, 6, .inl a8)), ((q 14), .inl (g.2 0, 6, .inl a14)), ((q 17), .inl (g.2 0, 6, .inl a17)), ((q 18), .inl (g.2 1, 6, .inl a18)), ((q 19), .inl (g.2 0, 6, .inl a19))] := hD
      refine nx_i (v := (ldM a9 a10 a12 a13 (cy.toNatClampNeg) (a11 (cy.toNatClampNeg)))) hre ?_
      exact retI C hS () (by simp only [ab_r, if_pos h7, if_pos hM, if_pos hO, if_pos hb6, if_neg (nc_n h7 c3), if_neg w4, if_neg w5, if_neg w6, if_neg w7, if_pos w8, (show r_c_get 6 a11 cy = a11 (cy.toNatClampNeg) from get_in (noCyl_in h7 c3).1 (by decide)), (show ∀ v9 : Int32, r_c_set 6 a11 cy v9 = upd a11 (cy.toNatClampNeg) v9 from fun v9 => set_in (noCyl_in h7 c3).1 (by decide)), (show r_c_get 6 a17 cy = a17 (cy.toNatClampNeg) from get_in (noCyl_in h7 c3).1 (by decide)), (show ∀ v9 : Int32, r_c_set 6 a17 cy v9 = upd a17 (cy.toNatClampNeg) v9 from fun v9 => set_in (noCyl_in h7 c3).1 (by decide)), (show r_c_get 6 a18 cy = a18 (cy.toNatClampNeg) from get_in (noCyl_in h7 c3).1 (by decide)), (show ∀ v9 : Int32, r_c_set 6 a18 cy v9 = upd a18 (cy.toNatClampNeg) v9 from fun v9 => set_in (noCyl_in h7 c3).1 (by decide)), (show r_c_get 6 a19 cy = a19 (cy.toNatClampNeg) from get_in (noCyl_in h7 c3).1 (by decide)), (show ∀ v9 : Int32, r_c_set 6 a19 cy v9 = upd a19 (cy.toNatClampNeg) v9 from fun v9 => set_in (noCyl_in h7 c3).1 (by decide))]) hP hD (Nat.le_of_ble_eq_true rfl) (Nat.le_of_ble_eq_true rfl) dX12_about_97
    by_cases w11 : what = 5
    · refine lv_tableIn (tgt := 98) (off := 87) hx hb dX12_about_11 (by rw [w11]; decide) (by rw [w11]; decide) (by rw [w11]; rfl) (by decide) ?_
      refine lv_aload_n hx hb dX12_about_98 rfl (lv_at hl 0 rfl) ?_
      refine lv_iload_n hx hb dX12_about_99 rfl (lv_at hl 1 rfl) ?_
      refine kI (rnV (As := [.int cy]) (rest := []) (Cn := RX12) C (v_needOf l g h0 q i L a11 a12 a9 a10 a13 a8 a14 cy hM hO (noCyl_in h7 c3).1 (noCyl_in h7 c3).2) 1 gX12_about_X12_needOf rfl (by decide +kernel) ⟨(Nat.le_of_ble_eq_true rfl), (Nat.le_of_ble_eq_true rfl)⟩ hP (k := 0) (ci := 12) rfl rfl rfl rfl hl.1 rfl (Nat.le_of_ble_eq_true rfl) dX12_about_100 ⟨(Nat.le_of_ble_eq_true rfl), (Nat.le_of_ble_eq_true rfl)⟩) (spM0 [true, true, true, true, true, true, true, true, false, false, false] hP hD rfl) hA hS (fun r12 u13 H locs hw hP hD hS => ?_)
      have hre := hw
      replace hP : va_P g.1 vwCl [(h0, .inr (12, mO q i L)), ((q 11), .inl (g.2 0, 6, .inl a11)), ((q 12), .inl (g.2 0, 6, .inl a12)), ((q 9), .inl (g.2 0, 6, .inl a9)), ((q 10), .inl (g.2 0, 6, .inl a10)), ((q 13), .inl (g.2 0, 60, .inl a13)), ((q 8), .inl (g.2 0, 6, .inl a8)), ((q 14), .inl (g.2 0, 6, .inl a14)), ((q 17), .inl (g.2 0, 6, .inl a17)), ((q 18), .inl (g.2 1, 6, .inl a18)), ((q 19), .inl (g.2 0, 6, .inl a19))] H := hP
      replace hD : va_D A [(h0, .inr (12, mO q i L)), ((q 11), .inl (g.2 0, 6, .inl a11)), ((q 12), .inl (g.2 0, 6, .inl a12)), ((q 9), .inl (g.2 0, 6, .inl a9)), ((q 10), .inl (g.2 0, 6, .inl a10)), ((q 13), .inl (g.2 0, 60, .inl a13)), ((q 8), .inl (g.2 0, 6, .inl a8)), ((q 14), .inl (g.2 0, 6, .inl a14)), ((q 17), .inl (g.2 0, 6, .inl a17)), ((q 18), .inl (g.2 1, 6, .inl a18)), ((q 19), .inl (g.2 0, 6, .inl a19))] := hD
      refine nx_i (v := (ndM a8 a9 a10 a12 a14 a13 (cy.toNatClampNeg) (a11 (cy.toNatClampNeg)))) hre ?_
      exact retI C hS () (by simp only [ab_r, if_pos h7, if_pos hM, if_pos hO, if_pos hb6, if_neg (nc_n h7 c3), if_neg w4, if_neg w5, if_neg w6, if_neg w7, if_neg w8, if_pos w11, (show r_c_get 6 a11 cy = a11 (cy.toNatClampNeg) from get_in (noCyl_in h7 c3).1 (by decide)), (show ∀ v9 : Int32, r_c_set 6 a11 cy v9 = upd a11 (cy.toNatClampNeg) v9 from fun v9 => set_in (noCyl_in h7 c3).1 (by decide)), (show r_c_get 6 a17 cy = a17 (cy.toNatClampNeg) from get_in (noCyl_in h7 c3).1 (by decide)), (show ∀ v9 : Int32, r_c_set 6 a17 cy v9 = upd a17 (cy.toNatClampNeg) v9 from fun v9 => set_in (noCyl_in h7 c3).1 (by decide)), (show r_c_get 6 a18 cy = a18 (cy.toNatClampNeg) from get_in (noCyl_in h7 c3).1 (by decide)), (show ∀ v9 : Int32, r_c_set 6 a18 cy v9 = upd a18 (cy.toNatClampNeg) v9 from fun v9 => set_in (noCyl_in h7 c3).1 (by decide)), (show r_c_get 6 a19 cy = a19 (cy.toNatClampNeg) from get_in (noCyl_in h7 c3).1 (by decide)), (show ∀ v9 : Int32, r_c_set 6 a19 cy v9 = upd a19 (cy.toNatClampNeg) v9 from fun v9 => set_in (noCyl_in h7 c3).1 (by decide))]) hP hD (Nat.le_of_ble_eq_true rfl) (Nat.le_of_ble_eq_true rfl) dX12_about_103
    by_cases w14 : what = 6
    · refine lv_tableIn (tgt := 104) (off := 93) hx hb dX12_about_11 (by rw [w14]; decide) (by rw [w14]; decide) (by rw [w14]; rfl) (by decide) ?_
      refine lv_aload_n hx hb dX12_about_104 rfl (lv_at hl 0 rfl) ?_
      refine va_get (D := g.1) (ci := 12) (v := .ref (q 17)) (C := RX12) (T := TX12) (N := 66) hx hb hts hw_X12_about_X12 hown hK hP 0 rfl rfl 17 (by decide) (hts (.fieldLink RX12 49 "OilPushModel" "valves" "[I") (List.mem_of_getElem? (i := 5) rfl)) (fun _ h => h) rfl dX12_about_105 ?_
      refine lv_iload_n hx hb dX12_about_108 rfl (lv_at hl 1 rfl) ?_
      refine va_iald hx hb hK hP 8 0 rfl rfl (noCyl_in h7 c3).1 dX12_about_109 ?_
      exact retI C hS () (by simp only [ab_r, if_pos h7, if_pos hM, if_pos hO, if_pos hb6, if_neg (nc_n h7 c3), if_neg w4, if_neg w5, if_neg w6, if_neg w7, if_neg w8, if_neg w11, if_pos w14, (show r_c_get 6 a11 cy = a11 (cy.toNatClampNeg) from get_in (noCyl_in h7 c3).1 (by decide)), (show ∀ v9 : Int32, r_c_set 6 a11 cy v9 = upd a11 (cy.toNatClampNeg) v9 from fun v9 => set_in (noCyl_in h7 c3).1 (by decide)), (show r_c_get 6 a17 cy = a17 (cy.toNatClampNeg) from get_in (noCyl_in h7 c3).1 (by decide)), (show ∀ v9 : Int32, r_c_set 6 a17 cy v9 = upd a17 (cy.toNatClampNeg) v9 from fun v9 => set_in (noCyl_in h7 c3).1 (by decide)), (show r_c_get 6 a18 cy = a18 (cy.toNatClampNeg) from get_in (noCyl_in h7 c3).1 (by decide)), (show ∀ v9 : Int32, r_c_set 6 a18 cy v9 = upd a18 (cy.toNatClampNeg) v9 from fun v9 => set_in (noCyl_in h7 c3).1 (by decide)), (show r_c_get 6 a19 cy = a19 (cy.toNatClampNeg) from get_in (noCyl_in h7 c3).1 (by decide)), (show ∀ v9 : Int32, r_c_set 6 a19 cy v9 = upd a19 (cy.toNatClampNeg) v9 from fun v9 => set_in (noCyl_in h7 c3).1 (by decide))]) hP hD (Nat.le_of_ble_eq_true rfl) (Nat.le_of_ble_eq_true rfl) dX12_about_110
    by_cases w15 : what = 7
    · refine lv_tableIn (tgt := 111) (off := 100) hx hb dX12_about_11 (by rw [w15]; decide) (by rw [w15]; decide) (by rw [w15]; rfl) (by decide) ?_
      refine lv_aload_n hx hb dX12_about_111 rfl (lv_at hl 0 rfl) ?_
      refine va_get (D := g.1) (ci := 12) (v := .ref (q 12)) (C := RX12) (T := TX12) (N := 66) hx hb hts hw_X12_about_X12 hown hK hP 0 rfl rfl 12 (by decide) (hts (.fieldLink RX12 34 "OilPushModel" "loadMany" "[I") (List.mem_of_getElem? (i := 6) rfl)) (fun _ h => h) rfl dX12_about_112 ?_
      refine lv_iload_n hx hb dX12_about_115 rfl (lv_at hl 1 rfl) ?_
      refine va_iald hx hb hK hP 2 0 rfl rfl (noCyl_in h7 c3).1 dX12_about_116 ?_
      exact retI C hS () (by simp only [ab_r, if_pos h7, if_pos hM, if_pos hO, if_pos hb6, if_neg (nc_n h7 c3), if_neg w4, if_neg w5, if_neg w6, if_neg w7, if_neg w8, if_neg w11, if_neg w14, if_pos w15, (show r_c_get 6 a11 cy = a11 (cy.toNatClampNeg) from get_in (noCyl_in h7 c3).1 (by decide)), (show ∀ v9 : Int32, r_c_set 6 a11 cy v9 = upd a11 (cy.toNatClampNeg) v9 from fun v9 => set_in (noCyl_in h7 c3).1 (by decide)), (show r_c_get 6 a17 cy = a17 (cy.toNatClampNeg) from get_in (noCyl_in h7 c3).1 (by decide)), (show ∀ v9 : Int32, r_c_set 6 a17 cy v9 = upd a17 (cy.toNatClampNeg) v9 from fun v9 => set_in (noCyl_in h7 c3).1 (by decide)), (show r_c_get 6 a18 cy = a18 (cy.toNatClampNeg) from get_in (noCyl_in h7 c3).1 (by decide)), (show ∀ v9 : Int32, r_c_set 6 a18 cy v9 = upd a18 (cy.toNatClampNeg) v9 from fun v9 => set_in (noCyl_in h7 c3).1 (by decide)), (show r_c_get 6 a19 cy = a19 (cy.toNatClampNeg) from get_in (noCyl_in h7 c3).1 (by decide)), (show ∀ v9 : Int32, r_c_set 6 a19 cy v9 = upd a19 (cy.toNatClampNeg) v9 from fun v9 => set_in (noCyl_in h7 c3).1 (by decide))]) hP hD (Nat.le_of_ble_eq_true rfl) (Nat.le_of_ble_eq_true rfl) dX12_about_117
    by_cases w16 : what = 8
    · refine lv_tableIn (tgt := 118) (off := 107) hx hb dX12_about_11 (by rw [w16]; decide) (by rw [w16]; decide) (by rw [w16]; rfl) (by decide) ?_
      refine lv_aload_n hx hb dX12_about_118 rfl (lv_at hl 0 rfl) ?_
      refine va_get (D := g.1) (ci := 12) (v := .ref (q 18)) (C := RX12) (T := TX12) (N := 66) hx hb hts hw_X12_about_X12 hown hK hP 0 rfl rfl 18 (by decide) (hts (.fieldLink RX12 52 "OilPushModel" "isBurst" "[Z") (List.mem_of_getElem? (i := 7) rfl)) (fun _ h => h) rfl dX12_about_119 ?_
      refine lv_iload_n hx hb dX12_about_122 rfl (lv_at hl 1 rfl) ?_
      refine va_zald hx hb hK hP 9 1 rfl rfl (noCyl_in h7 c3).1 dX12_about_123 ?_
      refine lv_if_eq (tgt := 131) hx hb dX12_about_124 (by decide) (fun c17 => ?_) (fun c17 => ?_)
      · refine lv_iconst (v := 0) hx hb dX12_about_131 (by decide) ?_
        exact retI C hS () (by simp only [ab_r, c17, if_pos h7, if_pos hM, if_pos hO, if_pos hb6, if_neg (nc_n h7 c3), if_neg w4, if_neg w5, if_neg w6, if_neg w7, if_neg w8, if_neg w11, if_neg w14, if_neg w15, if_pos w16, if_pos c17, (show r_c_get 6 a11 cy = a11 (cy.toNatClampNeg) from get_in (noCyl_in h7 c3).1 (by decide)), (show ∀ v9 : Int32, r_c_set 6 a11 cy v9 = upd a11 (cy.toNatClampNeg) v9 from fun v9 => set_in (noCyl_in h7 c3).1 (by decide)), (show r_c_get 6 a17 cy = a17 (cy.toNatClampNeg) from get_in (noCyl_in h7 c3).1 (by decide)), (show ∀ v9 : Int32, r_c_set 6 a17 cy v9 = upd a17 (cy.toNatClampNeg) v9 from fun v9 => set_in (noCyl_in h7 c3).1 (by decide)), (show r_c_get 6 a18 cy = a18 (cy.toNatClampNeg) from get_in (noCyl_in h7 c3).1 (by decide)), (show ∀ v9 : Int32, r_c_set 6 a18 cy v9 = upd a18 (cy.toNatClampNeg) v9 from fun v9 => set_in (noCyl_in h7 c3).1 (by decide)), (show r_c_get 6 a19 cy = a19 (cy.toNatClampNeg) from get_in (noCyl_in h7 c3).1 (by decide)), (show ∀ v9 : Int32, r_c_set 6 a19 cy v9 = upd a19 (cy.toNatClampNeg) v9 from fun v9 => set_in (noCyl_in h7 c3).1 (by decide))]) hP hD (Nat.le_of_ble_eq_true rfl) (Nat.le_of_ble_eq_true rfl) dX12_about_132
      refine lv_iconst (v := 1) hx hb dX12_about_127 (by decide) ?_
      refine lv_goto (tgt := 132) hx hb dX12_about_128 (by decide) ?_
      exact retI C hS () (by simp only [ab_r, (b6_1 hb6 (cl_lt (noCyl_in h7 c3).1) c17), if_pos h7, if_pos hM, if_pos hO, if_pos hb6, if_neg (nc_n h7 c3), if_neg w4, if_neg w5, if_neg w6, if_neg w7, if_neg w8, if_neg w11, if_neg w14, if_neg w15, if_pos w16, if_neg c17, (show r_c_get 6 a11 cy = a11 (cy.toNatClampNeg) from get_in (noCyl_in h7 c3).1 (by decide)), (show ∀ v9 : Int32, r_c_set 6 a11 cy v9 = upd a11 (cy.toNatClampNeg) v9 from fun v9 => set_in (noCyl_in h7 c3).1 (by decide)), (show r_c_get 6 a17 cy = a17 (cy.toNatClampNeg) from get_in (noCyl_in h7 c3).1 (by decide)), (show ∀ v9 : Int32, r_c_set 6 a17 cy v9 = upd a17 (cy.toNatClampNeg) v9 from fun v9 => set_in (noCyl_in h7 c3).1 (by decide)), (show r_c_get 6 a18 cy = a18 (cy.toNatClampNeg) from get_in (noCyl_in h7 c3).1 (by decide)), (show ∀ v9 : Int32, r_c_set 6 a18 cy v9 = upd a18 (cy.toNatClampNeg) v9 from fun v9 => set_in (noCyl_in h7 c3).1 (by decide)), (show r_c_get 6 a19 cy = a19 (cy.toNatClampNeg) from get_in (noCyl_in h7 c3).1 (by decide)), (show ∀ v9 : Int32, r_c_set 6 a19 cy v9 = upd a19 (cy.toNatClampNeg) v9 from fun v9 => set_in (noCyl_in h7 c3).1 (by decide))]) hP hD (Nat.le_of_ble_eq_true rfl) (Nat.le_of_ble_eq_true rfl) dX12_about_132
    by_cases w18 : what = 9
    · refine lv_tableIn (tgt := 133) (off := 122) hx hb dX12_about_11 (by rw [w18]; decide) (by rw [w18]; decide) (by rw [w18]; rfl) (by decide) ?_
      refine lv_aload_n hx hb dX12_about_133 rfl (lv_at hl 0 rfl) ?_
      refine va_get (D := g.1) (ci := 12) (v := .ref (q 19)) (C := RX12) (T := TX12) (N := 66) hx hb hts hw_X12_about_X12 hown hK hP 0 rfl rfl 19 (by decide) (hts (.fieldLink RX12 56 "OilPushModel" "took" "[I") (List.mem_of_getElem? (i := 8) rfl)) (fun _ h => h) rfl dX12_about_134 ?_
      refine lv_iload_n hx hb dX12_about_137 rfl (lv_at hl 1 rfl) ?_
      refine va_iald hx hb hK hP 10 0 rfl rfl (noCyl_in h7 c3).1 dX12_about_138 ?_
      exact retI C hS () (by simp only [ab_r, if_pos h7, if_pos hM, if_pos hO, if_pos hb6, if_neg (nc_n h7 c3), if_neg w4, if_neg w5, if_neg w6, if_neg w7, if_neg w8, if_neg w11, if_neg w14, if_neg w15, if_neg w16, if_pos w18, (show r_c_get 6 a11 cy = a11 (cy.toNatClampNeg) from get_in (noCyl_in h7 c3).1 (by decide)), (show ∀ v9 : Int32, r_c_set 6 a11 cy v9 = upd a11 (cy.toNatClampNeg) v9 from fun v9 => set_in (noCyl_in h7 c3).1 (by decide)), (show r_c_get 6 a17 cy = a17 (cy.toNatClampNeg) from get_in (noCyl_in h7 c3).1 (by decide)), (show ∀ v9 : Int32, r_c_set 6 a17 cy v9 = upd a17 (cy.toNatClampNeg) v9 from fun v9 => set_in (noCyl_in h7 c3).1 (by decide)), (show r_c_get 6 a18 cy = a18 (cy.toNatClampNeg) from get_in (noCyl_in h7 c3).1 (by decide)), (show ∀ v9 : Int32, r_c_set 6 a18 cy v9 = upd a18 (cy.toNatClampNeg) v9 from fun v9 => set_in (noCyl_in h7 c3).1 (by decide)), (show r_c_get 6 a19 cy = a19 (cy.toNatClampNeg) from get_in (noCyl_in h7 c3).1 (by decide)), (show ∀ v9 : Int32, r_c_set 6 a19 cy v9 = upd a19 (cy.toNatClampNeg) v9 from fun v9 => set_in (noCyl_in h7 c3).1 (by decide))]) hP hD (Nat.le_of_ble_eq_true rfl) (Nat.le_of_ble_eq_true rfl) dX12_about_139
    refine lv_tableOut (tgt := 140) hx hb dX12_about_11 (sw9 w4 w5 w6 w7 w8 w11 w14 w15 w16 w18) (by decide) ?_
    refine lv_bipush (v := -2) hx hb dX12_about_140 (by decide) ?_
    exact retI C hS () (by simp only [ab_r, if_pos h7, if_pos hM, if_pos hO, if_pos hb6, if_neg (nc_n h7 c3), if_neg w4, if_neg w5, if_neg w6, if_neg w7, if_neg w8, if_neg w11, if_neg w14, if_neg w15, if_neg w16, if_neg w18, (show r_c_get 6 a11 cy = a11 (cy.toNatClampNeg) from get_in (noCyl_in h7 c3).1 (by decide)), (show ∀ v9 : Int32, r_c_set 6 a11 cy v9 = upd a11 (cy.toNatClampNeg) v9 from fun v9 => set_in (noCyl_in h7 c3).1 (by decide)), (show r_c_get 6 a17 cy = a17 (cy.toNatClampNeg) from get_in (noCyl_in h7 c3).1 (by decide)), (show ∀ v9 : Int32, r_c_set 6 a17 cy v9 = upd a17 (cy.toNatClampNeg) v9 from fun v9 => set_in (noCyl_in h7 c3).1 (by decide)), (show r_c_get 6 a18 cy = a18 (cy.toNatClampNeg) from get_in (noCyl_in h7 c3).1 (by decide)), (show ∀ v9 : Int32, r_c_set 6 a18 cy v9 = upd a18 (cy.toNatClampNeg) v9 from fun v9 => set_in (noCyl_in h7 c3).1 (by decide)), (show r_c_get 6 a19 cy = a19 (cy.toNatClampNeg) from get_in (noCyl_in h7 c3).1 (by decide)), (show ∀ v9 : Int32, r_c_set 6 a19 cy v9 = upd a19 (cy.toNatClampNeg) v9 from fun v9 => set_in (noCyl_in h7 c3).1 (by decide))]) hP hD (Nat.le_of_ble_eq_true rfl) (Nat.le_of_ble_eq_true rfl) dX12_about_142
  refine lv_iconst (v := -1) hx hb dX12_about_8 (by decide) ?_
  exact retI C hS () (by simp only [ab_r, if_pos h7, if_pos hM, if_pos hO, if_pos hb6, if_pos (nc_y h7 c3)]) hP hD (Nat.le_of_ble_eq_true rfl) (Nat.le_of_ble_eq_true rfl) dX12_about_9
theorem hw_X12_gauge_X12 : ∀ w ∈ wsX120, w ∈ wsX12_gauge := fun w h => List.mem_cons_of_mem _ (List.mem_append_right _ h)
set_option maxRecDepth 100000 in
set_option maxHeartbeats 4000000 in
theorem v_gauge (l : Launch) (g : Gt) (h0 : Nat) (q : Nat → Nat) (i : Nat → Int32) (L : Nat → Int64) (what : Int32)  : Ctr l g yX12_gauge wsX12_gauge ({ frames := 1, cells := 0, slots := 0, locals := 25 } : Room) [.ref h0, .int what] [(h0, .inr (12, mO q i L))] (fun A => QI g A (fun r (u : Unit) => (r = ga_r (i 31) (i 32) (i 33) (i 34) (i 35) what)) (fun (u : Unit) => [(h0, .inr (12, mO q i L))])) := by
  refine Ctr.of (cc := cX12_gauge) (maxL := 2) (ret := (some .int)) (by decide) rfl (Nat.le_of_ble_eq_true rfl) ?_
  intro p e s m below meth c A ls H C hP hD hA hS hl
  obtain ⟨hx, hb, hr, hts, hown, hlocks, hml, hin, hKN⟩ := id C
  have hK := hKN.1
  have hN := hKN.2
  have F : CallFix p m c cX12_gauge 2 s _ wsX12_gauge yX12_gauge.cls := ⟨hx, hb, hml, hown, hts⟩
  have hl : lv_has ls 2 [(0, .ref h0), (1, .int what)] := hl
  refine lv_iload_n hx hb dX12_gauge_0 rfl (lv_at hl 1 rfl) ?_
  refine lv_i2l hx hb dX12_gauge_1 rfl ?_
  refine lv_lconst (v := 0) hx hb dX12_gauge_2 (by decide) ?_
  refine lv_ldc2 (v := 3) hx hb hown (hts (.constantLong RX12 148 (3)) (List.mem_of_getElem? (i := 1) rfl)) dX12_gauge_3 ?_
  refine pureIS (As := [.long (Int32.toInt64 what), .long 0, .long 3]) (rest := []) F (c_in l (Int32.toInt64 what) 0 3) 3 gX12_gauge_X12_in rfl (by decide +kernel) rfl rfl ⟨(Nat.le_of_ble_eq_true rfl), (Nat.le_of_ble_eq_true rfl)⟩ (Nat.le_of_ble_eq_true rfl) (Nat.le_of_ble_eq_true rfl) rfl hl.1 rfl (Nat.le_of_ble_eq_true rfl) dX12_gauge_6 ?_
  refine lv_if_ne (tgt := 15) hx hb dX12_gauge_9 (by decide) (fun c1 => ?_) (fun c1 => ?_)
  · refine lv_aload_n hx hb dX12_gauge_15 rfl (lv_at hl 0 rfl) ?_
    refine va_get (D := g.1) (ci := 12) (v := .int (i 31)) (C := RX12) (T := TX12) (N := 66) hx hb hts hw_X12_gauge_X12 hown hK hP 0 rfl rfl 31 (by decide) (hts (.fieldLink RX12 269 "OilPushModel" "isTicked" "Z") (List.mem_of_getElem? (i := 2) rfl)) (fun _ h => h) rfl dX12_gauge_16 ?_
    refine lv_if_ne (tgt := 25) hx hb dX12_gauge_19 (by decide) (fun c2 => ?_) (fun c2 => ?_)
    · refine lv_iload_n hx hb dX12_gauge_25 rfl (lv_at hl 1 rfl) ?_
      refine lv_if_ne (tgt := 36) hx hb dX12_gauge_26 (by decide) (fun c3 => ?_) (fun c3 => ?_)
      · refine lv_iload_n hx hb dX12_gauge_36 rfl (lv_at hl 1 rfl) ?_
        refine lv_iconst (v := 1) hx hb dX12_gauge_37 (by decide) ?_
        refine lv_icmp_ne (tgt := 48) hx hb dX12_gauge_38 (by decide) (fun c4 => ?_) (fun c4 => ?_)
        · refine lv_iload_n hx hb dX12_gauge_48 rfl (lv_at hl 1 rfl) ?_
          refine lv_iconst (v := 2) hx hb dX12_gauge_49 (by decide) ?_
          refine lv_icmp_ne (tgt := 60) hx hb dX12_gauge_50 (by decide) (fun c5 => ?_) (fun c5 => ?_)
          · refine lv_aload_n hx hb dX12_gauge_60 rfl (lv_at hl 0 rfl) ?_
            refine va_get (D := g.1) (ci := 12) (v := .int (i 35)) (C := RX12) (T := TX12) (N := 66) hx hb hts hw_X12_gauge_X12 hown hK hP 0 rfl rfl 35 (by decide) (hts (.fieldLink RX12 246 "OilPushModel" "movers" "I") (List.mem_of_getElem? (i := 6) rfl)) (fun _ h => h) rfl dX12_gauge_61 ?_
            exact retI C hS () (by simp only [ga_r, if_neg (show ¬ r_c_within what 0 3 = 0 from fun e9 => c1 ((in_within what 0 3).trans e9)), if_neg c2, if_neg c3, if_neg c4, if_neg c5]) hP hD (Nat.le_of_ble_eq_true rfl) (Nat.le_of_ble_eq_true rfl) dX12_gauge_64
          refine lv_aload_n hx hb dX12_gauge_53 rfl (lv_at hl 0 rfl) ?_
          refine va_get (D := g.1) (ci := 12) (v := .int (i 34)) (C := RX12) (T := TX12) (N := 66) hx hb hts hw_X12_gauge_X12 hown hK hP 0 rfl rfl 34 (by decide) (hts (.fieldLink RX12 253 "OilPushModel" "storeTook" "I") (List.mem_of_getElem? (i := 5) rfl)) (fun _ h => h) rfl dX12_gauge_54 ?_
          refine lv_goto (tgt := 64) hx hb dX12_gauge_57 (by decide) ?_
          exact retI C hS () (by simp only [ga_r, if_neg (show ¬ r_c_within what 0 3 = 0 from fun e9 => c1 ((in_within what 0 3).trans e9)), if_neg c2, if_neg c3, if_neg c4, if_pos c5]) hP hD (Nat.le_of_ble_eq_true rfl) (Nat.le_of_ble_eq_true rfl) dX12_gauge_64
        refine lv_aload_n hx hb dX12_gauge_41 rfl (lv_at hl 0 rfl) ?_
        refine va_get (D := g.1) (ci := 12) (v := .int (i 33)) (C := RX12) (T := TX12) (N := 66) hx hb hts hw_X12_gauge_X12 hown hK hP 0 rfl rfl 33 (by decide) (hts (.fieldLink RX12 256 "OilPushModel" "over" "I") (List.mem_of_getElem? (i := 4) rfl)) (fun _ h => h) rfl dX12_gauge_42 ?_
        refine lv_goto (tgt := 64) hx hb dX12_gauge_45 (by decide) ?_
        exact retI C hS () (by simp only [ga_r, if_neg (show ¬ r_c_within what 0 3 = 0 from fun e9 => c1 ((in_within what 0 3).trans e9)), if_neg c2, if_neg c3, if_pos c4, if_neg (ne10 c4)]) hP hD (Nat.le_of_ble_eq_true rfl) (Nat.le_of_ble_eq_true rfl) dX12_gauge_64
      refine lv_aload_n hx hb dX12_gauge_29 rfl (lv_at hl 0 rfl) ?_
      refine va_get (D := g.1) (ci := 12) (v := .int (i 32)) (C := RX12) (T := TX12) (N := 66) hx hb hts hw_X12_gauge_X12 hown hK hP 0 rfl rfl 32 (by decide) (hts (.fieldLink RX12 243 "OilPushModel" "pressure" "I") (List.mem_of_getElem? (i := 3) rfl)) (fun _ h => h) rfl dX12_gauge_30 ?_
      refine lv_goto (tgt := 64) hx hb dX12_gauge_33 (by decide) ?_
      exact retI C hS () (by simp only [ga_r, if_neg (show ¬ r_c_within what 0 3 = 0 from fun e9 => c1 ((in_within what 0 3).trans e9)), if_neg c2, if_pos c3, if_neg (ne01 c3)]) hP hD (Nat.le_of_ble_eq_true rfl) (Nat.le_of_ble_eq_true rfl) dX12_gauge_64
    refine lv_bipush (v := -3) hx hb dX12_gauge_22 (by decide) ?_
    exact retI C hS () (by simp only [ga_r, if_neg (show ¬ r_c_within what 0 3 = 0 from fun e9 => c1 ((in_within what 0 3).trans e9)), if_pos c2]) hP hD (Nat.le_of_ble_eq_true rfl) (Nat.le_of_ble_eq_true rfl) dX12_gauge_24
  refine lv_bipush (v := -2) hx hb dX12_gauge_12 (by decide) ?_
  exact retI C hS () (by simp only [ga_r, if_pos (show r_c_within what 0 3 = 0 from (in_within what 0 3).symm.trans c1)]) hP hD (Nat.le_of_ble_eq_true rfl) (Nat.le_of_ble_eq_true rfl) dX12_gauge_14
theorem hw_X12_mover_X12 : ∀ w ∈ wsX120, w ∈ wsX12_mover := fun w h => List.mem_cons_of_mem _ (List.mem_append_right _ h)
set_option maxRecDepth 100000 in
set_option maxHeartbeats 4000000 in
theorem v_mover (l : Launch) (g : Gt) (h0 : Nat) (q : Nat → Nat) (i : Nat → Int32) (L : Nat → Int64) (a36 : Nat → Int32) (ii : Int32) (h35 : 0 ≤ (i 35).toInt ∧ (i 35).toInt ≤ 6) : Ctr l g yX12_mover wsX12_mover ({ frames := 1, cells := 0, slots := 0, locals := 25 } : Room) [.ref h0, .int ii] [(h0, .inr (12, mO q i L)), ((q 36), .inl (g.2 0, 6, .inl a36))] (fun A => QI g A (fun r (u : Unit) => (r = mo_r (i 35) a36 ii)) (fun (u : Unit) => [(h0, .inr (12, mO q i L)), ((q 36), .inl (g.2 0, 6, .inl a36))])) := by
  refine Ctr.of (cc := cX12_mover) (maxL := 2) (ret := (some .int)) (by decide) rfl (Nat.le_of_ble_eq_true rfl) ?_
  intro p e s m below meth c A ls H C hP hD hA hS hl
  obtain ⟨hx, hb, hr, hts, hown, hlocks, hml, hin, hKN⟩ := id C
  have hK := hKN.1
  have hN := hKN.2
  have F : CallFix p m c cX12_mover 2 s _ wsX12_mover yX12_mover.cls := ⟨hx, hb, hml, hown, hts⟩
  have hl : lv_has ls 2 [(0, .ref h0), (1, .int ii)] := hl
  refine lv_iload_n hx hb dX12_mover_0 rfl (lv_at hl 1 rfl) ?_
  refine lv_i2l hx hb dX12_mover_1 rfl ?_
  refine lv_lconst (v := 0) hx hb dX12_mover_2 (by decide) ?_
  refine lv_aload_n hx hb dX12_mover_3 rfl (lv_at hl 0 rfl) ?_
  refine va_get (D := g.1) (ci := 12) (v := .int (i 35)) (C := RX12) (T := TX12) (N := 66) hx hb hts hw_X12_mover_X12 hown hK hP 0 rfl rfl 35 (by decide) (hts (.fieldLink RX12 246 "OilPushModel" "movers" "I") (List.mem_of_getElem? (i := 1) rfl)) (fun _ h => h) rfl dX12_mover_4 ?_
  refine lv_i2l hx hb dX12_mover_7 rfl ?_
  refine lv_lconst (v := 1) hx hb dX12_mover_8 (by decide) ?_
  refine lv_lsub hx hb dX12_mover_9 ?_
  refine pureIS (As := [.long (Int32.toInt64 ii), .long 0, .long ((Int32.toInt64 (i 35)) - 1)]) (rest := []) F (c_in l (Int32.toInt64 ii) 0 ((Int32.toInt64 (i 35)) - 1)) 3 gX12_mover_X12_in rfl (by decide +kernel) rfl rfl ⟨(Nat.le_of_ble_eq_true rfl), (Nat.le_of_ble_eq_true rfl)⟩ (Nat.le_of_ble_eq_true rfl) (Nat.le_of_ble_eq_true rfl) rfl hl.1 rfl (Nat.le_of_ble_eq_true rfl) dX12_mover_10 ?_
  refine lv_if_eq (tgt := 25) hx hb dX12_mover_13 (by decide) (fun c1 => ?_) (fun c1 => ?_)
  · refine lv_iconst (v := -1) hx hb dX12_mover_25 (by decide) ?_
    exact retI C hS () (by unfold mo_r; rw [← mv_in h35, if_pos c1]) hP hD (Nat.le_of_ble_eq_true rfl) (Nat.le_of_ble_eq_true rfl) dX12_mover_26
  refine lv_aload_n hx hb dX12_mover_16 rfl (lv_at hl 0 rfl) ?_
  refine va_get (D := g.1) (ci := 12) (v := .ref (q 36)) (C := RX12) (T := TX12) (N := 66) hx hb hts hw_X12_mover_X12 hown hK hP 0 rfl rfl 36 (by decide) (hts (.fieldLink RX12 71 "OilPushModel" "mover" "[I") (List.mem_of_getElem? (i := 2) rfl)) (fun _ h => h) rfl dX12_mover_17 ?_
  refine lv_iload_n hx hb dX12_mover_20 rfl (lv_at hl 1 rfl) ?_
  refine va_iald hx hb hK hP 1 0 rfl rfl (mv_vp h35 c1) dX12_mover_21 ?_
  refine lv_goto (tgt := 26) hx hb dX12_mover_22 (by decide) ?_
  exact retI C hS () (by unfold mo_r; rw [← mv_in h35, if_neg c1, get_in (mv_vp h35 c1) (by decide)]) hP hD (Nat.le_of_ble_eq_true rfl) (Nat.le_of_ble_eq_true rfl) dX12_mover_26
theorem hw_X12_sum_X12 : ∀ w ∈ wsX120, w ∈ wsX12_sum := fun w h => List.mem_cons_of_mem _ (List.mem_append_right _ h)
set_option maxRecDepth 100000 in
set_option maxHeartbeats 4000000 in
theorem v_sum (l : Launch) (g : Gt) (h0 : Nat) (q : Nat → Nat) (i : Nat → Int32) (L : Nat → Int64) (what : Int32) (h22 : ¬ (i 22) = 0) (hst : 0 < (i 22)) : Ctr l g yX12_sum wsX12_sum ({ frames := 1, cells := 0, slots := 0, locals := 20 } : Room) [.ref h0, .int what] [(h0, .inr (12, mO q i L))] (fun A => QL g A (fun r (u : Unit) => (r = su_r (L 37) (L 38) (L 39) (i 23) (i 21) (i 22) what)) (fun (u : Unit) => [(h0, .inr (12, mO q i L))])) := by
  refine Ctr.of (cc := cX12_sum) (maxL := 2) (ret := (some .long)) (by decide) rfl (Nat.le_of_ble_eq_true rfl) ?_
  intro p e s m below meth c A ls H C hP hD hA hS hl
  obtain ⟨hx, hb, hr, hts, hown, hlocks, hml, hin, hKN⟩ := id C
  have hK := hKN.1
  have hN := hKN.2
  have F : CallFix p m c cX12_sum 2 s _ wsX12_sum yX12_sum.cls := ⟨hx, hb, hml, hown, hts⟩
  have hl : lv_has ls 2 [(0, .ref h0), (1, .int what)] := hl
  refine lv_iload_n hx hb dX12_sum_0 rfl (lv_at hl 1 rfl) ?_
  by_cases w1 : what = 0
  · refine lv_tableIn (tgt := 36) (off := 35) hx hb dX12_sum_1 (by rw [w1]; decide) (by rw [w1]; decide) (by rw [w1]; rfl) (by decide) ?_
    refine lv_aload_n hx hb dX12_sum_36 rfl (lv_at hl 0 rfl) ?_
    refine va_get (D := g.1) (ci := 12) (v := .long (L 37)) (C := RX12) (T := TX12) (N := 66) hx hb hts hw_X12_sum_X12 hown hK hP 0 rfl rfl 37 (by decide) (hts (.fieldLink RX12 259 "OilPushModel" "heat" "J") (List.mem_of_getElem? (i := 1) rfl)) (fun _ h => h) rfl dX12_sum_37 ?_
    exact retL C hS () (by simp only [su_r, prS, if_pos hst, if_neg h22, if_pos hst, if_pos w1, if_neg (ne01 w1), if_neg (Int32.not_le.mpr hst)]) hP hD (Nat.le_of_ble_eq_true rfl) (Nat.le_of_ble_eq_true rfl) dX12_sum_40
  by_cases w2 : what = 1
  · refine lv_tableIn (tgt := 41) (off := 40) hx hb dX12_sum_1 (by rw [w2]; decide) (by rw [w2]; decide) (by rw [w2]; rfl) (by decide) ?_
    refine lv_aload_n hx hb dX12_sum_41 rfl (lv_at hl 0 rfl) ?_
    refine va_get (D := g.1) (ci := 12) (v := .long (L 38)) (C := RX12) (T := TX12) (N := 66) hx hb hts hw_X12_sum_X12 hown hK hP 0 rfl rfl 38 (by decide) (hts (.fieldLink RX12 263 "OilPushModel" "work" "J") (List.mem_of_getElem? (i := 2) rfl)) (fun _ h => h) rfl dX12_sum_42 ?_
    exact retL C hS () (by simp only [su_r, prS, if_pos hst, if_neg h22, if_pos hst, if_neg w1, if_pos w2, if_neg (ne10 w2), if_neg (Int32.not_le.mpr hst)]) hP hD (Nat.le_of_ble_eq_true rfl) (Nat.le_of_ble_eq_true rfl) dX12_sum_45
  by_cases w3 : what = 2
  · refine lv_tableIn (tgt := 46) (off := 45) hx hb dX12_sum_1 (by rw [w3]; decide) (by rw [w3]; decide) (by rw [w3]; rfl) (by decide) ?_
    refine lv_aload_n hx hb dX12_sum_46 rfl (lv_at hl 0 rfl) ?_
    refine va_get (D := g.1) (ci := 12) (v := .long (L 39)) (C := RX12) (T := TX12) (N := 66) hx hb hts hw_X12_sum_X12 hown hK hP 0 rfl rfl 39 (by decide) (hts (.fieldLink RX12 266 "OilPushModel" "given" "J") (List.mem_of_getElem? (i := 3) rfl)) (fun _ h => h) rfl dX12_sum_47 ?_
    exact retL C hS () (by simp only [su_r, prS, if_pos hst, if_neg h22, if_pos hst, if_neg w1, if_neg w2, if_pos w3, if_neg (Int32.not_le.mpr hst)]) hP hD (Nat.le_of_ble_eq_true rfl) (Nat.le_of_ble_eq_true rfl) dX12_sum_50
  by_cases w4 : what = 3
  · refine lv_tableIn (tgt := 51) (off := 50) hx hb dX12_sum_1 (by rw [w4]; decide) (by rw [w4]; decide) (by rw [w4]; rfl) (by decide) ?_
    refine lv_aload_n hx hb dX12_sum_51 rfl (lv_at hl 0 rfl) ?_
    refine va_get (D := g.1) (ci := 12) (v := .int (i 23)) (C := RX12) (T := TX12) (N := 66) hx hb hts hw_X12_sum_X12 hown hK hP 0 rfl rfl 23 (by decide) (hts (.fieldLink RX12 203 "OilPushModel" "kept" "I") (List.mem_of_getElem? (i := 4) rfl)) (fun _ h => h) rfl dX12_sum_52 ?_
    refine lv_i2l hx hb dX12_sum_55 rfl ?_
    exact retL C hS () (by simp only [su_r, prS, if_pos hst, if_neg h22, if_pos hst, if_neg w1, if_neg w2, if_neg w3, if_pos w4, if_neg (Int32.not_le.mpr hst)]) hP hD (Nat.le_of_ble_eq_true rfl) (Nat.le_of_ble_eq_true rfl) dX12_sum_56
  by_cases w5 : what = 4
  · refine lv_tableIn (tgt := 57) (off := 56) hx hb dX12_sum_1 (by rw [w5]; decide) (by rw [w5]; decide) (by rw [w5]; rfl) (by decide) ?_
    refine lv_aload_n hx hb dX12_sum_57 rfl (lv_at hl 0 rfl) ?_
    refine kI (rnV (As := []) (rest := []) (Cn := RX12) C (g_storePressure l g h0 q i L h22) 0 gX12_sum_X12_storePressure rfl (by decide +kernel) ⟨(Nat.le_of_ble_eq_true rfl), (Nat.le_of_ble_eq_true rfl)⟩ hP (k := 0) (ci := 12) rfl rfl rfl rfl hl.1 rfl (Nat.le_of_ble_eq_true rfl) dX12_sum_58 ⟨(Nat.le_of_ble_eq_true rfl), (Nat.le_of_ble_eq_true rfl)⟩) (spM0 [true] hP hD rfl) hA hS (fun r6 u7 H locs hw hP hD hS => ?_)
    have hre := hw
    replace hP : va_P g.1 vwCl [(h0, .inr (12, mO q i L))] H := hP
    replace hD : va_D A [(h0, .inr (12, mO q i L))] := hD
    refine nx_i (v := ((i 21) + ((i 23) / (i 22)))) hre ?_
    refine lv_i2l hx hb dX12_sum_61 rfl ?_
    exact retL C hS () (by simp only [su_r, prS, if_pos hst, if_neg h22, if_pos hst, if_neg w1, if_neg w2, if_neg w3, if_neg w4, if_pos w5, if_neg (Int32.not_le.mpr hst)]) hP hD (Nat.le_of_ble_eq_true rfl) (Nat.le_of_ble_eq_true rfl) dX12_sum_62
  refine lv_tableOut (tgt := 63) hx hb dX12_sum_1 (sw4 w1 w2 w3 w4 w5) (by decide) ?_
  refine pureLS (As := []) (rest := []) F (c_lost l) 0 gX12_sum_X12_lost rfl (by decide +kernel) rfl rfl ⟨(Nat.le_of_ble_eq_true rfl), (Nat.le_of_ble_eq_true rfl)⟩ (Nat.le_of_ble_eq_true rfl) (Nat.le_of_ble_eq_true rfl) rfl hl.1 rfl (Nat.le_of_ble_eq_true rfl) dX12_sum_63 ?_
  exact retL C hS () (by simp only [su_r, prS, if_pos hst, if_neg h22, if_pos hst, if_neg w1, if_neg w2, if_neg w3, if_neg w4, if_neg w5, if_neg (Int32.not_le.mpr hst)]) hP hD (Nat.le_of_ble_eq_true rfl) (Nat.le_of_ble_eq_true rfl) dX12_sum_66
theorem hw_X12_tell_X12 : ∀ w ∈ wsX120, w ∈ wsX12_tell := fun w h => List.mem_cons_of_mem _ (List.mem_append_right _ h)
set_option maxRecDepth 100000 in
set_option maxHeartbeats 4000000 in
theorem v_tell (l : Launch) (g : Gt) (h0 : Nat) (q : Nat → Nat) (i : Nat → Int32) (L : Nat → Int64) (a8 : Nat → Int32) (a11 : Nat → Int32) (cy : Int32) (h7 : 0 ≤ (i 7).toInt ∧ (i 7).toInt ≤ 6) : Ctr l g yX12_tell wsX12_tell ({ frames := 2, cells := 0, slots := 0, locals := 46 } : Room) [.ref h0, .int cy] [(h0, .inr (12, mO q i L)), ((q 8), .inl (g.2 0, 6, .inl a8)), ((q 11), .inl (g.2 0, 6, .inl a11))] (fun A => QI g A (fun r (u : Int32) => (r = st_r (i 7) a8 a11 cy) ∧ (u = o_g_tell_65 i a8 cy)) (fun (u : Int32) => [(h0, .inr (12, mO q (upd i 65 u) L)), ((q 8), .inl (g.2 0, 6, .inl a8)), ((q 11), .inl (g.2 0, 6, .inl a11))])) := by
  refine Ctr.of (cc := cX12_tell) (maxL := 2) (ret := (some .int)) (by decide) rfl (Nat.le_of_ble_eq_true rfl) ?_
  intro p e s m below meth c A ls H C hP hD hA hS hl
  obtain ⟨hx, hb, hr, hts, hown, hlocks, hml, hin, hKN⟩ := id C
  have hK := hKN.1
  have hN := hKN.2
  have F : CallFix p m c cX12_tell 2 s _ wsX12_tell yX12_tell.cls := ⟨hx, hb, hml, hown, hts⟩
  have hl : lv_has ls 2 [(0, .ref h0), (1, .int cy)] := hl
  refine lv_aload_n hx hb dX12_tell_0 rfl (lv_at hl 0 rfl) ?_
  refine lv_iload_n hx hb dX12_tell_1 rfl (lv_at hl 1 rfl) ?_
  refine kI (rnV (As := [.int cy]) (rest := []) (Cn := RX12) C (g_noCylinder l g h0 q i L cy) 1 gX12_tell_X12_noCylinder rfl (by decide +kernel) ⟨(Nat.le_of_ble_eq_true rfl), (Nat.le_of_ble_eq_true rfl)⟩ hP (k := 0) (ci := 12) rfl rfl rfl rfl hl.1 rfl (Nat.le_of_ble_eq_true rfl) dX12_tell_2 ⟨(Nat.le_of_ble_eq_true rfl), (Nat.le_of_ble_eq_true rfl)⟩) (spM0 [true, false, false] hP hD rfl) hA hS (fun r1 u2 H locs hw hP hD hS => ?_)
  have hre := hw
  replace hP : va_P g.1 vwCl [(h0, .inr (12, mO q i L)), ((q 8), .inl (g.2 0, 6, .inl a8)), ((q 11), .inl (g.2 0, 6, .inl a11))] H := hP
  replace hD : va_D A [(h0, .inr (12, mO q i L)), ((q 8), .inl (g.2 0, 6, .inl a8)), ((q 11), .inl (g.2 0, 6, .inl a11))] := hD
  refine nx_i (v := (r_g_noCylinder i cy)) hre ?_
  refine lv_if_eq (tgt := 10) hx hb dX12_tell_5 (by decide) (fun c3 => ?_) (fun c3 => ?_)
  · refine lv_aload_n hx hb dX12_tell_10 rfl (lv_at hl 0 rfl) ?_
    refine va_get (D := g.1) (ci := 12) (v := .ref (q 8)) (C := RX12) (T := TX12) (N := 66) hx hb hts hw_X12_tell_X12 hown hK hP 0 rfl rfl 8 (by decide) (hts (.fieldLink RX12 22 "OilPushModel" "kind" "[I") (List.mem_of_getElem? (i := 1) rfl)) (fun _ h => h) rfl dX12_tell_11 ?_
    refine lv_iload_n hx hb dX12_tell_14 rfl (lv_at hl 1 rfl) ?_
    refine va_iald hx hb hK hP 1 0 rfl rfl (noCyl_in h7 c3).1 dX12_tell_15 ?_
    refine lv_if_le (tgt := 31) hx hb dX12_tell_16 (by decide) (fun c4 => ?_) (fun c4 => ?_)
    · refine lv_aload_n hx hb dX12_tell_31 rfl (lv_at hl 0 rfl) ?_
      refine lv_iconst (v := 1) hx hb dX12_tell_32 (by decide) ?_
      refine kV (rnV (As := [.int 1]) (rest := []) (Cn := RX12) C (g_traced l g h0 q i L 1) 1 gX12_tell_X12_traced rfl (by decide +kernel) ⟨(Nat.le_of_ble_eq_true rfl), (Nat.le_of_ble_eq_true rfl)⟩ hP (k := 0) (ci := 12) rfl rfl rfl rfl hl.1 rfl (Nat.le_of_ble_eq_true rfl) dX12_tell_33 ⟨(Nat.le_of_ble_eq_true rfl), (Nat.le_of_ble_eq_true rfl)⟩) (spM0 [true, false, false] hP hD rfl) hA hS (fun u6 H locs hw hP hD hS => ?_)
      replace hP : va_P g.1 vwCl [(h0, .inr (12, mO q (upd i 65 ((31 * (i 65)) + 1)) L)), ((q 8), .inl (g.2 0, 6, .inl a8)), ((q 11), .inl (g.2 0, 6, .inl a11))] H := hP
      replace hD : va_D A [(h0, .inr (12, mO q (upd i 65 ((31 * (i 65)) + 1)) L)), ((q 8), .inl (g.2 0, 6, .inl a8)), ((q 11), .inl (g.2 0, 6, .inl a11))] := hD
      refine lv_aload_n hx hb dX12_tell_36 rfl (lv_at hl 0 rfl) ?_
      refine va_get (D := g.1) (ci := 12) (v := .ref (q 8)) (C := RX12) (T := TX12) (N := 66) hx hb hts hw_X12_tell_X12 hown hK hP 0 rfl rfl 8 (by decide) (hts (.fieldLink RX12 22 "OilPushModel" "kind" "[I") (List.mem_of_getElem? (i := 1) rfl)) (fun _ h => h) rfl dX12_tell_37 ?_
      refine lv_iload_n hx hb dX12_tell_40 rfl (lv_at hl 1 rfl) ?_
      refine va_iald hx hb hK hP 1 0 rfl rfl (noCyl_in h7 c3).1 dX12_tell_41 ?_
      refine lv_if_ne (tgt := 54) hx hb dX12_tell_42 (by decide) (fun c7 => ?_) (fun c7 => ?_)
      · refine lv_aload_n hx hb dX12_tell_54 rfl (lv_at hl 0 rfl) ?_
        refine va_get (D := g.1) (ci := 12) (v := .ref (q 8)) (C := RX12) (T := TX12) (N := 66) hx hb hts hw_X12_tell_X12 hown hK hP 0 rfl rfl 8 (by decide) (hts (.fieldLink RX12 22 "OilPushModel" "kind" "[I") (List.mem_of_getElem? (i := 1) rfl)) (fun _ h => h) rfl dX12_tell_55 ?_
        refine lv_iload_n hx hb dX12_tell_58 rfl (lv_at hl 1 rfl) ?_
        refine va_iald hx hb hK hP 1 0 rfl rfl (noCyl_in h7 c3).1 dX12_tell_59 ?_
        refine lv_iconst (v := 1) hx hb dX12_tell_60 (by decide) ?_
        refine lv_icmp_ne (tgt := 77) hx hb dX12_tell_61 (by decide) (fun c8 => ?_) (fun c8 => ?_)
        · refine lv_iconst (v := 2) hx hb dX12_tell_77 (by decide) ?_
          refine lv_aload_n hx hb dX12_tell_78 rfl (lv_at hl 0 rfl) ?_
          refine va_get (D := g.1) (ci := 12) (v := .ref (q 11)) (C := RX12) (T := TX12) (N := 66) hx hb hts hw_X12_tell_X12 hown hK hP 0 rfl rfl 11 (by decide) (hts (.fieldLink RX12 31 "OilPushModel" "oil" "[I") (List.mem_of_getElem? (i := 2) rfl)) (fun _ h => h) rfl dX12_tell_79 ?_
          refine lv_iload_n hx hb dX12_tell_82 rfl (lv_at hl 1 rfl) ?_
          refine va_iald hx hb hK hP 2 0 rfl rfl (noCyl_in h7 c3).1 dX12_tell_83 ?_
          refine lv_imul hx hb dX12_tell_84 ?_
          exact retI C hS ((31 * (i 65)) + 1) ⟨(by simp only [st_r, if_pos h7, if_neg (nc_n h7 c3), if_pos c4, if_neg c7, if_neg c8, if_neg (Int32.not_lt.mpr c4), (show r_c_get 6 a11 cy = a11 (cy.toNatClampNeg) from get_in (noCyl_in h7 c3).1 (by decide)), (show ∀ v9 : Int32, r_c_set 6 a11 cy v9 = upd a11 (cy.toNatClampNeg) v9 from fun v9 => set_in (noCyl_in h7 c3).1 (by decide))]), (by simp only [o_g_tell_65, if_pos c3, if_pos c4, if_neg c7, if_neg c8])⟩ hP hD (Nat.le_of_ble_eq_true rfl) (Nat.le_of_ble_eq_true rfl) dX12_tell_85
        refine lv_aload_n hx hb dX12_tell_64 rfl (lv_at hl 0 rfl) ?_
        refine va_get (D := g.1) (ci := 12) (v := .ref (q 11)) (C := RX12) (T := TX12) (N := 66) hx hb hts hw_X12_tell_X12 hown hK hP 0 rfl rfl 11 (by decide) (hts (.fieldLink RX12 31 "OilPushModel" "oil" "[I") (List.mem_of_getElem? (i := 2) rfl)) (fun _ h => h) rfl dX12_tell_65 ?_
        refine lv_iload_n hx hb dX12_tell_68 rfl (lv_at hl 1 rfl) ?_
        refine va_iald hx hb hK hP 2 0 rfl rfl (noCyl_in h7 c3).1 dX12_tell_69 ?_
        refine lv_ldcw (v := 1000000) hx hb hown (hts (.constant RX12 320 (1000000)) (List.mem_of_getElem? (i := 3) rfl)) dX12_tell_70 ?_
        refine lv_iadd hx hb dX12_tell_73 ?_
        refine lv_goto (tgt := 85) hx hb dX12_tell_74 (by decide) ?_
        exact retI C hS ((31 * (i 65)) + 1) ⟨(by simp only [st_r, if_pos h7, if_neg (nc_n h7 c3), if_pos c4, if_neg c7, if_pos c8, if_neg (Int32.not_lt.mpr c4), (show r_c_get 6 a11 cy = a11 (cy.toNatClampNeg) from get_in (noCyl_in h7 c3).1 (by decide)), (show ∀ v9 : Int32, r_c_set 6 a11 cy v9 = upd a11 (cy.toNatClampNeg) v9 from fun v9 => set_in (noCyl_in h7 c3).1 (by decide))]), (by simp only [o_g_tell_65, if_pos c3, if_pos c4, if_neg c7, if_pos c8])⟩ hP hD (Nat.le_of_ble_eq_true rfl) (Nat.le_of_ble_eq_true rfl) dX12_tell_85
      refine lv_aload_n hx hb dX12_tell_45 rfl (lv_at hl 0 rfl) ?_
      refine va_get (D := g.1) (ci := 12) (v := .ref (q 11)) (C := RX12) (T := TX12) (N := 66) hx hb hts hw_X12_tell_X12 hown hK hP 0 rfl rfl 11 (by decide) (hts (.fieldLink RX12 31 "OilPushModel" "oil" "[I") (List.mem_of_getElem? (i := 2) rfl)) (fun _ h => h) rfl dX12_tell_46 ?_
      refine lv_iload_n hx hb dX12_tell_49 rfl (lv_at hl 1 rfl) ?_
      refine va_iald hx hb hK hP 2 0 rfl rfl (noCyl_in h7 c3).1 dX12_tell_50 ?_
      refine lv_goto (tgt := 85) hx hb dX12_tell_51 (by decide) ?_
      exact retI C hS ((31 * (i 65)) + 1) ⟨(by simp only [st_r, if_pos h7, if_neg (nc_n h7 c3), if_pos c4, if_pos c7, if_neg (Int32.not_lt.mpr c4), (show r_c_get 6 a11 cy = a11 (cy.toNatClampNeg) from get_in (noCyl_in h7 c3).1 (by decide)), (show ∀ v9 : Int32, r_c_set 6 a11 cy v9 = upd a11 (cy.toNatClampNeg) v9 from fun v9 => set_in (noCyl_in h7 c3).1 (by decide))]), (by simp only [o_g_tell_65, if_pos c3, if_pos c4, if_pos c7])⟩ hP hD (Nat.le_of_ble_eq_true rfl) (Nat.le_of_ble_eq_true rfl) dX12_tell_85
    refine lv_aload_n hx hb dX12_tell_19 rfl (lv_at hl 0 rfl) ?_
    refine lv_aload_n hx hb dX12_tell_20 rfl (lv_at hl 0 rfl) ?_
    refine va_get (D := g.1) (ci := 12) (v := .ref (q 8)) (C := RX12) (T := TX12) (N := 66) hx hb hts hw_X12_tell_X12 hown hK hP 0 rfl rfl 8 (by decide) (hts (.fieldLink RX12 22 "OilPushModel" "kind" "[I") (List.mem_of_getElem? (i := 1) rfl)) (fun _ h => h) rfl dX12_tell_21 ?_
    refine lv_iload_n hx hb dX12_tell_24 rfl (lv_at hl 1 rfl) ?_
    refine va_iald hx hb hK hP 1 0 rfl rfl (noCyl_in h7 c3).1 dX12_tell_25 ?_
    refine lv_iconst (v := 1) hx hb dX12_tell_26 (by decide) ?_
    refine lv_iadd hx hb dX12_tell_27 ?_
    refine kV (rnV (As := [.int ((a8 (cy.toNatClampNeg)) + 1)]) (rest := []) (Cn := RX12) C (g_traced l g h0 q i L ((a8 (cy.toNatClampNeg)) + 1)) 1 gX12_tell_X12_traced rfl (by decide +kernel) ⟨(Nat.le_of_ble_eq_true rfl), (Nat.le_of_ble_eq_true rfl)⟩ hP (k := 0) (ci := 12) rfl rfl rfl rfl hl.1 rfl (Nat.le_of_ble_eq_true rfl) dX12_tell_28 ⟨(Nat.le_of_ble_eq_true rfl), (Nat.le_of_ble_eq_true rfl)⟩) (spM0 [true, false, false] hP hD rfl) hA hS (fun u10 H locs hw hP hD hS => ?_)
    replace hP : va_P g.1 vwCl [(h0, .inr (12, mO q (upd i 65 ((31 * (i 65)) + ((a8 (cy.toNatClampNeg)) + 1))) L)), ((q 8), .inl (g.2 0, 6, .inl a8)), ((q 11), .inl (g.2 0, 6, .inl a11))] H := hP
    replace hD : va_D A [(h0, .inr (12, mO q (upd i 65 ((31 * (i 65)) + ((a8 (cy.toNatClampNeg)) + 1))) L)), ((q 8), .inl (g.2 0, 6, .inl a8)), ((q 11), .inl (g.2 0, 6, .inl a11))] := hD
    refine lv_aload_n hx hb dX12_tell_31 rfl (lv_at hl 0 rfl) ?_
    refine lv_iconst (v := 1) hx hb dX12_tell_32 (by decide) ?_
    refine kV (rnV (As := [.int 1]) (rest := []) (Cn := RX12) C (g_traced l g h0 q (upd i 65 ((31 * (i 65)) + ((a8 (cy.toNatClampNeg)) + 1))) L 1) 1 gX12_tell_X12_traced rfl (by decide +kernel) ⟨(Nat.le_of_ble_eq_true rfl), (Nat.le_of_ble_eq_true rfl)⟩ hP (k := 0) (ci := 12) rfl rfl rfl rfl hl.1 rfl (Nat.le_of_ble_eq_true rfl) dX12_tell_33 ⟨(Nat.le_of_ble_eq_true rfl), (Nat.le_of_ble_eq_true rfl)⟩) (spM0 [true, false, false] hP hD rfl) hA hS (fun u12 H locs hw hP hD hS => ?_)
    replace hP : va_P g.1 vwCl [(h0, .inr (12, mO q (upd i 65 ((31 * ((31 * (i 65)) + ((a8 (cy.toNatClampNeg)) + 1))) + 1)) L)), ((q 8), .inl (g.2 0, 6, .inl a8)), ((q 11), .inl (g.2 0, 6, .inl a11))] H := hP
    replace hD : va_D A [(h0, .inr (12, mO q (upd i 65 ((31 * ((31 * (i 65)) + ((a8 (cy.toNatClampNeg)) + 1))) + 1)) L)), ((q 8), .inl (g.2 0, 6, .inl a8)), ((q 11), .inl (g.2 0, 6, .inl a11))] := hD
    refine lv_aload_n hx hb dX12_tell_36 rfl (lv_at hl 0 rfl) ?_
    refine va_get (D := g.1) (ci := 12) (v := .ref (q 8)) (C := RX12) (T := TX12) (N := 66) hx hb hts hw_X12_tell_X12 hown hK hP 0 rfl rfl 8 (by decide) (hts (.fieldLink RX12 22 "OilPushModel" "kind" "[I") (List.mem_of_getElem? (i := 1) rfl)) (fun _ h => h) rfl dX12_tell_37 ?_
    refine lv_iload_n hx hb dX12_tell_40 rfl (lv_at hl 1 rfl) ?_
    refine va_iald hx hb hK hP 1 0 rfl rfl (noCyl_in h7 c3).1 dX12_tell_41 ?_
    refine lv_if_ne (tgt := 54) hx hb dX12_tell_42 (by decide) (fun c13 => ?_) (fun c13 => ?_)
    · refine lv_aload_n hx hb dX12_tell_54 rfl (lv_at hl 0 rfl) ?_
      refine va_get (D := g.1) (ci := 12) (v := .ref (q 8)) (C := RX12) (T := TX12) (N := 66) hx hb hts hw_X12_tell_X12 hown hK hP 0 rfl rfl 8 (by decide) (hts (.fieldLink RX12 22 "OilPushModel" "kind" "[I") (List.mem_of_getElem? (i := 1) rfl)) (fun _ h => h) rfl dX12_tell_55 ?_
      refine lv_iload_n hx hb dX12_tell_58 rfl (lv_at hl 1 rfl) ?_
      refine va_iald hx hb hK hP 1 0 rfl rfl (noCyl_in h7 c3).1 dX12_tell_59 ?_
      refine lv_iconst (v := 1) hx hb dX12_tell_60 (by decide) ?_
      refine lv_icmp_ne (tgt := 77) hx hb dX12_tell_61 (by decide) (fun c14 => ?_) (fun c14 => ?_)
      · refine lv_iconst (v := 2) hx hb dX12_tell_77 (by decide) ?_
        refine lv_aload_n hx hb dX12_tell_78 rfl (lv_at hl 0 rfl) ?_
        refine va_get (D := g.1) (ci := 12) (v := .ref (q 11)) (C := RX12) (T := TX12) (N := 66) hx hb hts hw_X12_tell_X12 hown hK hP 0 rfl rfl 11 (by decide) (hts (.fieldLink RX12 31 "OilPushModel" "oil" "[I") (List.mem_of_getElem? (i := 2) rfl)) (fun _ h => h) rfl dX12_tell_79 ?_
        refine lv_iload_n hx hb dX12_tell_82 rfl (lv_at hl 1 rfl) ?_
        refine va_iald hx hb hK hP 2 0 rfl rfl (noCyl_in h7 c3).1 dX12_tell_83 ?_
        refine lv_imul hx hb dX12_tell_84 ?_
        exact retI C hS ((31 * ((31 * (i 65)) + ((a8 (cy.toNatClampNeg)) + 1))) + 1) ⟨(by simp only [st_r, if_pos h7, if_neg (nc_n h7 c3), if_neg c4, if_neg c13, if_neg c14, if_pos (Int32.not_le.mp c4), (show r_c_get 6 a11 cy = a11 (cy.toNatClampNeg) from get_in (noCyl_in h7 c3).1 (by decide)), (show ∀ v9 : Int32, r_c_set 6 a11 cy v9 = upd a11 (cy.toNatClampNeg) v9 from fun v9 => set_in (noCyl_in h7 c3).1 (by decide))]), (by simp only [o_g_tell_65, if_pos c3, if_neg c4, if_neg c13, if_neg c14])⟩ hP hD (Nat.le_of_ble_eq_true rfl) (Nat.le_of_ble_eq_true rfl) dX12_tell_85
      refine lv_aload_n hx hb dX12_tell_64 rfl (lv_at hl 0 rfl) ?_
      refine va_get (D := g.1) (ci := 12) (v := .ref (q 11)) (C := RX12) (T := TX12) (N := 66) hx hb hts hw_X12_tell_X12 hown hK hP 0 rfl rfl 11 (by decide) (hts (.fieldLink RX12 31 "OilPushModel" "oil" "[I") (List.mem_of_getElem? (i := 2) rfl)) (fun _ h => h) rfl dX12_tell_65 ?_
      refine lv_iload_n hx hb dX12_tell_68 rfl (lv_at hl 1 rfl) ?_
      refine va_iald hx hb hK hP 2 0 rfl rfl (noCyl_in h7 c3).1 dX12_tell_69 ?_
      refine lv_ldcw (v := 1000000) hx hb hown (hts (.constant RX12 320 (1000000)) (List.mem_of_getElem? (i := 3) rfl)) dX12_tell_70 ?_
      refine lv_iadd hx hb dX12_tell_73 ?_
      refine lv_goto (tgt := 85) hx hb dX12_tell_74 (by decide) ?_
      exact retI C hS ((31 * ((31 * (i 65)) + ((a8 (cy.toNatClampNeg)) + 1))) + 1) ⟨(by simp only [st_r, if_pos h7, if_neg (nc_n h7 c3), if_neg c4, if_neg c13, if_pos c14, if_pos (Int32.not_le.mp c4), (show r_c_get 6 a11 cy = a11 (cy.toNatClampNeg) from get_in (noCyl_in h7 c3).1 (by decide)), (show ∀ v9 : Int32, r_c_set 6 a11 cy v9 = upd a11 (cy.toNatClampNeg) v9 from fun v9 => set_in (noCyl_in h7 c3).1 (by decide))]), (by simp only [o_g_tell_65, if_pos c3, if_neg c4, if_neg c13, if_pos c14])⟩ hP hD (Nat.le_of_ble_eq_true rfl) (Nat.le_of_ble_eq_true rfl) dX12_tell_85
    refine lv_aload_n hx hb dX12_tell_45 rfl (lv_at hl 0 rfl) ?_
    refine va_get (D := g.1) (ci := 12) (v := .ref (q 11)) (C := RX12) (T := TX12) (N := 66) hx hb hts hw_X12_tell_X12 hown hK hP 0 rfl rfl 11 (by decide) (hts (.fieldLink RX12 31 "OilPushModel" "oil" "[I") (List.mem_of_getElem? (i := 2) rfl)) (fun _ h => h) rfl dX12_tell_46 ?_
    refine lv_iload_n hx hb dX12_tell_49 rfl (lv_at hl 1 rfl) ?_
    refine va_iald hx hb hK hP 2 0 rfl rfl (noCyl_in h7 c3).1 dX12_tell_50 ?_
    refine lv_goto (tgt := 85) hx hb dX12_tell_51 (by decide) ?_
    exact retI C hS ((31 * ((31 * (i 65)) + ((a8 (cy.toNatClampNeg)) + 1))) + 1) ⟨(by simp only [st_r, if_pos h7, if_neg (nc_n h7 c3), if_neg c4, if_pos c13, if_pos (Int32.not_le.mp c4), (show r_c_get 6 a11 cy = a11 (cy.toNatClampNeg) from get_in (noCyl_in h7 c3).1 (by decide)), (show ∀ v9 : Int32, r_c_set 6 a11 cy v9 = upd a11 (cy.toNatClampNeg) v9 from fun v9 => set_in (noCyl_in h7 c3).1 (by decide))]), (by simp only [o_g_tell_65, if_pos c3, if_neg c4, if_pos c13])⟩ hP hD (Nat.le_of_ble_eq_true rfl) (Nat.le_of_ble_eq_true rfl) dX12_tell_85
  refine lv_iconst (v := -1) hx hb dX12_tell_8 (by decide) ?_
  exact retI C hS (i 65) ⟨(by simp only [st_r, if_pos h7, if_pos (nc_y h7 c3)]), (by simp only [o_g_tell_65, if_neg c3])⟩ hP hD (Nat.le_of_ble_eq_true rfl) (Nat.le_of_ble_eq_true rfl) dX12_tell_9
theorem hw_X12_told_X12 : ∀ w ∈ wsX120, w ∈ wsX12_told := fun w h => List.mem_cons_of_mem _ (List.mem_append_right _ h)
set_option maxRecDepth 100000 in
set_option maxHeartbeats 4000000 in
theorem v_told (l : Launch) (g : Gt) (h0 : Nat) (q : Nat → Nat) (i : Nat → Int32) (L : Nat → Int64) (a11 : Nat → Int32) (a9 : Nat → Int32) (a10 : Nat → Int32) (what : Int32) (h7 : 0 ≤ (i 7).toInt ∧ (i 7).toInt ≤ 6) : Ctr l g yX12_told wsX12_told ({ frames := 1, cells := 0, slots := 0, locals := 21 } : Room) [.ref h0, .int what] [(h0, .inr (12, mO q i L)), ((q 11), .inl (g.2 0, 6, .inl a11)), ((q 9), .inl (g.2 0, 6, .inl a9)), ((q 10), .inl (g.2 0, 6, .inl a10))] (fun A => QI g A (fun r (u : Unit) => (r = to_r (i 7) (i 24) (i 52) (i 30) (rmM a9 a10) a11 what)) (fun (u : Unit) => [(h0, .inr (12, mO q i L)), ((q 11), .inl (g.2 0, 6, .inl a11)), ((q 9), .inl (g.2 0, 6, .inl a9)), ((q 10), .inl (g.2 0, 6, .inl a10))])) := by
  refine Ctr.of (cc := cX12_told) (maxL := 4) (ret := (some .int)) (by decide) rfl (Nat.le_of_ble_eq_true rfl) ?_
  intro p e s m below meth c A ls H C hP hD hA hS hl
  obtain ⟨hx, hb, hr, hts, hown, hlocks, hml, hin, hKN⟩ := id C
  have hK := hKN.1
  have hN := hKN.2
  have F : CallFix p m c cX12_told 4 s _ wsX12_told yX12_told.cls := ⟨hx, hb, hml, hown, hts⟩
  have hl : lv_has ls 4 [(0, .ref h0), (1, .int what)] := hl
  refine lv_iconst (v := 0) hx hb dX12_told_0 (by decide) ?_
  refine lv_istore_n (lv' := [(2, .int 0), (0, .ref h0), (1, .int what)]) hx hb dX12_told_1 rfl hl (by decide) rfl (fun ls hl => ?_)
  refine lv_iconst (v := 0) hx hb dX12_told_2 (by decide) ?_
  refine lv_istore_n (lv' := [(3, .int 0), (2, .int 0), (0, .ref h0), (1, .int what)]) hx hb dX12_told_3 rfl hl (by decide) rfl (fun ls hl => ?_)
  refine W.loop (α := Int32 × Int32) (P := fun z ls H locs => ((forX (i 7) (htF what (rmM a9 a10) a11) z.2 z.1 = forX (i 7) (htF what (rmM a9 a10) a11) 0 0) ∧ 0 ≤ (z.2).toInt) ∧ lv_has ls 4 [(3, .int z.2), (2, .int z.1), (0, .ref h0), (1, .int what)] ∧ va_P g.1 vwCl [(h0, .inr (12, mO q i L)), ((q 11), .inl (g.2 0, 6, .inl a11)), ((q 9), .inl (g.2 0, 6, .inl a9)), ((q 10), .inl (g.2 0, 6, .inl a10))] H ∧ va_D A [(h0, .inr (12, mO q i L)), ((q 11), .inl (g.2 0, 6, .inl a11)), ((q 9), .inl (g.2 0, 6, .inl a9)), ((q 10), .inl (g.2 0, 6, .inl a10))] ∧ va_S A s.heap H locs) (μ := fun z => ((i 7).toInt - (z.2).toInt).toNat) (0, 0) ⟨⟨rfl, z_ge⟩, hl, hP, hD, hS⟩ (fun z ls H locs hh ih4 => ?_)
  obtain ⟨l2_4, l3_4⟩ := z
  try dsimp only at hh ih4
  obtain ⟨hiv4, hl, hP, hD, hS⟩ := hh
  have hl : lv_has ls 4 [(3, .int l3_4), (2, .int l2_4), (0, .ref h0), (1, .int what)] := hl
  replace hP : va_P g.1 vwCl [(h0, .inr (12, mO q i L)), ((q 11), .inl (g.2 0, 6, .inl a11)), ((q 9), .inl (g.2 0, 6, .inl a9)), ((q 10), .inl (g.2 0, 6, .inl a10))] H := hP
  replace hD : va_D A [(h0, .inr (12, mO q i L)), ((q 11), .inl (g.2 0, 6, .inl a11)), ((q 9), .inl (g.2 0, 6, .inl a9)), ((q 10), .inl (g.2 0, 6, .inl a10))] := hD
  refine lv_iload_n hx hb dX12_told_4 rfl (lv_at hl 0 rfl) ?_
  refine lv_aload_n hx hb dX12_told_5 rfl (lv_at hl 2 rfl) ?_
  refine va_get (D := g.1) (ci := 12) (v := .int (i 7)) (C := RX12) (T := TX12) (N := 66) hx hb hts hw_X12_told_X12 hown hK hP 0 rfl rfl 7 (by decide) (hts (.fieldLink RX12 179 "OilPushModel" "cylinders" "I") (List.mem_of_getElem? (i := 1) rfl)) (fun _ h => h) rfl dX12_told_6 ?_
  refine lv_icmp_ge (tgt := 59) hx hb dX12_told_9 (by decide) (fun c1 => ?_) (fun c1 => ?_)
  · refine lv_iload_n hx hb dX12_told_59 rfl (lv_at hl 3 rfl) ?_
    by_cases w2 : what = 0
    · refine lv_tableIn (tgt := 100) (off := 40) hx hb dX12_told_60 (by rw [w2]; decide) (by rw [w2]; decide) (by rw [w2]; rfl) (by decide) ?_
      refine lv_aload_n hx hb dX12_told_100 rfl (lv_at hl 2 rfl) ?_
      refine va_get (D := g.1) (ci := 12) (v := .int (i 7)) (C := RX12) (T := TX12) (N := 66) hx hb hts hw_X12_told_X12 hown hK hP 0 rfl rfl 7 (by decide) (hts (.fieldLink RX12 179 "OilPushModel" "cylinders" "I") (List.mem_of_getElem? (i := 1) rfl)) (fun _ h => h) rfl dX12_told_101 ?_
      exact retI C hS () (by unfold to_r; rw [if_pos w2]) hP hD (Nat.le_of_ble_eq_true rfl) (Nat.le_of_ble_eq_true rfl) dX12_told_104
    by_cases w3 : what = 1
    · refine lv_tableIn (tgt := 105) (off := 45) hx hb dX12_told_60 (by rw [w3]; decide) (by rw [w3]; decide) (by rw [w3]; rfl) (by decide) ?_
      refine lv_aload_n hx hb dX12_told_105 rfl (lv_at hl 2 rfl) ?_
      refine va_get (D := g.1) (ci := 12) (v := .int (i 24)) (C := RX12) (T := TX12) (N := 66) hx hb hts hw_X12_told_X12 hown hK hP 0 rfl rfl 24 (by decide) (hts (.fieldLink RX12 221 "OilPushModel" "orders" "I") (List.mem_of_getElem? (i := 3) rfl)) (fun _ h => h) rfl dX12_told_106 ?_
      exact retI C hS () (by unfold to_r; rw [if_neg w2, if_pos w3]) hP hD (Nat.le_of_ble_eq_true rfl) (Nat.le_of_ble_eq_true rfl) dX12_told_109
    by_cases w4 : what = 2
    · refine lv_tableIn (tgt := 110) (off := 50) hx hb dX12_told_60 (by rw [w4]; decide) (by rw [w4]; decide) (by rw [w4]; rfl) (by decide) ?_
      refine lv_aload_n hx hb dX12_told_110 rfl (lv_at hl 2 rfl) ?_
      refine va_get (D := g.1) (ci := 12) (v := .int (i 52)) (C := RX12) (T := TX12) (N := 66) hx hb hts hw_X12_told_X12 hown hK hP 0 rfl rfl 52 (by decide) (hts (.fieldLink RX12 291 "OilPushModel" "readings" "I") (List.mem_of_getElem? (i := 4) rfl)) (fun _ h => h) rfl dX12_told_111 ?_
      exact retI C hS () (by unfold to_r; rw [if_neg w2, if_neg w3, if_pos w4]) hP hD (Nat.le_of_ble_eq_true rfl) (Nat.le_of_ble_eq_true rfl) dX12_told_114
    by_cases w5 : what = 3
    · refine lv_tableIn (tgt := 115) (off := 55) hx hb dX12_told_60 (by rw [w5]; decide) (by rw [w5]; decide) (by rw [w5]; rfl) (by decide) ?_
      refine lv_aload_n hx hb dX12_told_115 rfl (lv_at hl 2 rfl) ?_
      refine va_get (D := g.1) (ci := 12) (v := .int (i 30)) (C := RX12) (T := TX12) (N := 66) hx hb hts hw_X12_told_X12 hown hK hP 0 rfl rfl 30 (by decide) (hts (.fieldLink RX12 136 "OilPushModel" "sinceStart" "I") (List.mem_of_getElem? (i := 5) rfl)) (fun _ h => h) rfl dX12_told_116 ?_
      exact retI C hS () (by unfold to_r; rw [if_neg w2, if_neg w3, if_neg w4, if_pos w5]) hP hD (Nat.le_of_ble_eq_true rfl) (Nat.le_of_ble_eq_true rfl) dX12_told_119
    by_cases w6 : what = 4
    · refine lv_tableIn (tgt := 120) (off := 60) hx hb dX12_told_60 (by rw [w6]; decide) (by rw [w6]; decide) (by rw [w6]; rfl) (by decide) ?_
      refine lv_iload_n hx hb dX12_told_120 rfl (lv_at hl 1 rfl) ?_
      exact retI C hS () (by unfold to_r; rw [if_neg w2, if_neg w3, if_neg w4, if_neg w5, if_pos w6]; exact (forX_out c1 hiv4.1).trans (ht_eq h7 (Or.inl ⟨w6, rfl⟩))) hP hD (Nat.le_of_ble_eq_true rfl) (Nat.le_of_ble_eq_true rfl) dX12_told_121
    by_cases w7 : what = 5
    · refine lv_tableIn (tgt := 120) (off := 60) hx hb dX12_told_60 (by rw [w7]; decide) (by rw [w7]; decide) (by rw [w7]; rfl) (by decide) ?_
      refine lv_iload_n hx hb dX12_told_120 rfl (lv_at hl 1 rfl) ?_
      exact retI C hS () (by unfold to_r; rw [if_neg w2, if_neg w3, if_neg w4, if_neg w5, if_neg w6, if_pos w7]; exact (forX_out c1 hiv4.1).trans (ht_eq h7 (Or.inr ⟨w7, rfl⟩))) hP hD (Nat.le_of_ble_eq_true rfl) (Nat.le_of_ble_eq_true rfl) dX12_told_121
    refine lv_tableOut (tgt := 122) hx hb dX12_told_60 (sw5 w2 w3 w4 w5 w6 w7) (by decide) ?_
    refine lv_bipush (v := -2) hx hb dX12_told_122 (by decide) ?_
    exact retI C hS () (by unfold to_r; rw [if_neg w2, if_neg w3, if_neg w4, if_neg w5, if_neg w6, if_neg w7]) hP hD (Nat.le_of_ble_eq_true rfl) (Nat.le_of_ble_eq_true rfl) dX12_told_124
  refine lv_iload_n hx hb dX12_told_12 rfl (lv_at hl 1 rfl) ?_
  refine lv_iload_n hx hb dX12_told_13 rfl (lv_at hl 3 rfl) ?_
  refine lv_iconst (v := 4) hx hb dX12_told_14 (by decide) ?_
  refine W.join (pcJ := 51) (P := fun ls H locs st => ∃ z : Int32, (z = htV what (a11 (l3_4.toNatClampNeg)) (rmM a9 a10 (l3_4.toNatClampNeg))) ∧ lv_has ls 4 [(3, .int l3_4), (2, .int l2_4), (0, .ref h0), (1, .int what)] ∧ st = [.int z, .int l2_4] ∧ va_P g.1 vwCl [(h0, .inr (12, mO q i L)), ((q 11), .inl (g.2 0, 6, .inl a11)), ((q 9), .inl (g.2 0, 6, .inl a9)), ((q 10), .inl (g.2 0, 6, .inl a10))] H ∧ va_D A [(h0, .inr (12, mO q i L)), ((q 11), .inl (g.2 0, 6, .inl a11)), ((q 9), .inl (g.2 0, 6, .inl a9)), ((q 10), .inl (g.2 0, 6, .inl a10))] ∧ va_S A s.heap H locs) (fun J => ?_) (fun ls H locs st hJ => ?_)
  · refine lv_icmp_ne (tgt := 32) hx hb dX12_told_15 (by decide) (fun c8 => ?_) (fun c8 => ?_)
    · refine lv_iload_n hx hb dX12_told_32 rfl (lv_at hl 3 rfl) ?_
      refine lv_iconst (v := 5) hx hb dX12_told_33 (by decide) ?_
      refine lv_icmp_ne (tgt := 50) hx hb dX12_told_34 (by decide) (fun c9 => ?_) (fun c9 => ?_)
      · refine lv_iconst (v := 0) hx hb dX12_told_50 (by decide) ?_
        exact J ls H locs _ ⟨0, (by unfold htV rmM; simp only [if_neg c8, if_neg c9]), lv_sub hl [0, 1, 2, 3] rfl, rfl, hP, hD, hS⟩
      refine lv_aload_n hx hb dX12_told_37 rfl (lv_at hl 2 rfl) ?_
      refine va_get (D := g.1) (ci := 12) (v := .ref (q 11)) (C := RX12) (T := TX12) (N := 66) hx hb hts hw_X12_told_X12 hown hK hP 0 rfl rfl 11 (by decide) (hts (.fieldLink RX12 31 "OilPushModel" "oil" "[I") (List.mem_of_getElem? (i := 2) rfl)) (fun _ h => h) rfl dX12_told_38 ?_
      refine lv_iload_n hx hb dX12_told_41 rfl (lv_at hl 0 rfl) ?_
      refine va_iald hx hb hK hP 1 0 rfl rfl (lt_in hiv4.2 c1 h7.2) dX12_told_42 ?_
      refine lv_if_ne (tgt := 50) hx hb dX12_told_43 (by decide) (fun c10 => ?_) (fun c10 => ?_)
      · refine lv_iconst (v := 0) hx hb dX12_told_50 (by decide) ?_
        exact J ls H locs _ ⟨0, (by unfold htV rmM; simp only [if_neg c8, if_pos c9, if_neg c10]), lv_sub hl [0, 1, 2, 3] rfl, rfl, hP, hD, hS⟩
      refine lv_iconst (v := 1) hx hb dX12_told_46 (by decide) ?_
      refine lv_goto (tgt := 51) hx hb dX12_told_47 (by decide) ?_
      exact J ls H locs _ ⟨1, (by unfold htV rmM; simp only [if_neg c8, if_pos c9, if_pos c10]), lv_sub hl [0, 1, 2, 3] rfl, rfl, hP, hD, hS⟩
    refine lv_aload_n hx hb dX12_told_18 rfl (lv_at hl 2 rfl) ?_
    refine va_get (D := g.1) (ci := 12) (v := .ref (q 11)) (C := RX12) (T := TX12) (N := 66) hx hb hts hw_X12_told_X12 hown hK hP 0 rfl rfl 11 (by decide) (hts (.fieldLink RX12 31 "OilPushModel" "oil" "[I") (List.mem_of_getElem? (i := 2) rfl)) (fun _ h => h) rfl dX12_told_19 ?_
    refine lv_iload_n hx hb dX12_told_22 rfl (lv_at hl 0 rfl) ?_
    refine va_iald hx hb hK hP 1 0 rfl rfl (lt_in hiv4.2 c1 h7.2) dX12_told_23 ?_
    refine lv_aload_n hx hb dX12_told_24 rfl (lv_at hl 2 rfl) ?_
    refine lv_iload_n hx hb dX12_told_25 rfl (lv_at hl 0 rfl) ?_
    refine kI (rnV (As := [.int l3_4]) (rest := [.int (a11 (l3_4.toNatClampNeg)), .int l2_4]) (Cn := RX12) C (g_room l g h0 q i L a9 a10 l3_4 (lt_in hiv4.2 c1 h7.2)) 1 gX12_told_X12_room rfl (by decide +kernel) ⟨(Nat.le_of_ble_eq_true rfl), (Nat.le_of_ble_eq_true rfl)⟩ hP (k := 0) (ci := 12) rfl rfl rfl rfl hl.1 rfl (Nat.le_of_ble_eq_true rfl) dX12_told_26 ⟨(Nat.le_of_ble_eq_true rfl), (Nat.le_of_ble_eq_true rfl)⟩) (spM0 [true, false, true, true] hP hD rfl) hA hS (fun r11 u12 H locs hw hP hD hS => ?_)
    have hre := hw
    replace hP : va_P g.1 vwCl [(h0, .inr (12, mO q i L)), ((q 11), .inl (g.2 0, 6, .inl a11)), ((q 9), .inl (g.2 0, 6, .inl a9)), ((q 10), .inl (g.2 0, 6, .inl a10))] H := hP
    replace hD : va_D A [(h0, .inr (12, mO q i L)), ((q 11), .inl (g.2 0, 6, .inl a11)), ((q 9), .inl (g.2 0, 6, .inl a9)), ((q 10), .inl (g.2 0, 6, .inl a10))] := hD
    refine nx_i (v := ((a9 (l3_4.toNatClampNeg)) * (a10 (l3_4.toNatClampNeg)))) hre ?_
    refine lv_icmp_eq (tgt := 46) hx hb dX12_told_29 (by decide) (fun c13 => ?_) (fun c13 => ?_)
    · refine lv_iconst (v := 1) hx hb dX12_told_46 (by decide) ?_
      refine lv_goto (tgt := 51) hx hb dX12_told_47 (by decide) ?_
      exact J ls H locs _ ⟨1, (by unfold htV rmM; simp only [if_pos c8, if_pos c13]), lv_sub hl [0, 1, 2, 3] rfl, rfl, hP, hD, hS⟩
    refine lv_iload_n hx hb dX12_told_32 rfl (lv_at hl 3 rfl) ?_
    refine lv_iconst (v := 5) hx hb dX12_told_33 (by decide) ?_
    refine lv_icmp_ne (tgt := 50) hx hb dX12_told_34 (by decide) (fun c14 => ?_) (fun c14 => ?_)
    · refine lv_iconst (v := 0) hx hb dX12_told_50 (by decide) ?_
      exact J ls H locs _ ⟨0, (by unfold htV rmM; simp only [if_pos c8, if_neg c13, if_neg c14]), lv_sub hl [0, 1, 2, 3] rfl, rfl, hP, hD, hS⟩
    refine lv_aload_n hx hb dX12_told_37 rfl (lv_at hl 2 rfl) ?_
    refine va_get (D := g.1) (ci := 12) (v := .ref (q 11)) (C := RX12) (T := TX12) (N := 66) hx hb hts hw_X12_told_X12 hown hK hP 0 rfl rfl 11 (by decide) (hts (.fieldLink RX12 31 "OilPushModel" "oil" "[I") (List.mem_of_getElem? (i := 2) rfl)) (fun _ h => h) rfl dX12_told_38 ?_
    refine lv_iload_n hx hb dX12_told_41 rfl (lv_at hl 0 rfl) ?_
    refine va_iald hx hb hK hP 1 0 rfl rfl (lt_in hiv4.2 c1 h7.2) dX12_told_42 ?_
    refine lv_if_ne (tgt := 50) hx hb dX12_told_43 (by decide) (fun c15 => ?_) (fun c15 => ?_)
    · refine lv_iconst (v := 0) hx hb dX12_told_50 (by decide) ?_
      exact J ls H locs _ ⟨0, (by unfold htV rmM; simp only [if_pos c8, if_neg c13, if_pos c14, if_neg c15]), lv_sub hl [0, 1, 2, 3] rfl, rfl, hP, hD, hS⟩
    refine lv_iconst (v := 1) hx hb dX12_told_46 (by decide) ?_
    refine lv_goto (tgt := 51) hx hb dX12_told_47 (by decide) ?_
    exact J ls H locs _ ⟨1, (by unfold htV rmM; simp only [if_pos c8, if_neg c13, if_pos c14, if_pos c15]), lv_sub hl [0, 1, 2, 3] rfl, rfl, hP, hD, hS⟩
  obtain ⟨j16, hi17, hl, hst, hP, hD, hS⟩ := hJ
  subst hst
  have hl : lv_has ls 4 [(3, .int l3_4), (2, .int l2_4), (0, .ref h0), (1, .int what)] := hl
  replace hP : va_P g.1 vwCl [(h0, .inr (12, mO q i L)), ((q 11), .inl (g.2 0, 6, .inl a11)), ((q 9), .inl (g.2 0, 6, .inl a9)), ((q 10), .inl (g.2 0, 6, .inl a10))] H := hP
  replace hD : va_D A [(h0, .inr (12, mO q i L)), ((q 11), .inl (g.2 0, 6, .inl a11)), ((q 9), .inl (g.2 0, 6, .inl a9)), ((q 10), .inl (g.2 0, 6, .inl a10))] := hD
  refine lv_iadd hx hb dX12_told_51 ?_
  refine lv_istore_n (lv' := [(2, .int (l2_4 + j16)), (3, .int l3_4), (0, .ref h0), (1, .int what)]) hx hb dX12_told_52 rfl hl (by decide) rfl (fun ls hl => ?_)
  refine lv_iinc (v := (l3_4 + 1)) (lv' := [(3, .int (l3_4 + 1)), (2, .int (l2_4 + j16)), (0, .ref h0), (1, .int what)]) hx hb dX12_told_53 hl (k := 1) rfl rfl (by decide) rfl (fun ls hl => ?_)
  refine lv_goto (tgt := 4) hx hb dX12_told_56 (by decide) ?_
  exact ih4 ((l2_4 + j16), (l3_4 + 1)) ls H locs ⟨⟨forX_back c1 (by unfold htF; rw [hi17]) hiv4.1, (by have h9 := inc_toInt c1; have h8 := hiv4.2; (try dsimp only); omega)⟩, lv_sub hl [0, 1, 2, 3] rfl, hP, hD, hS⟩ (inc_mu2 c1)
theorem oci_add {n oc cy : Int32} {w : FnI} (h : OCI n oc w) (ho : 0 ≤ oc.toInt ∧ oc.toInt ≤ 30) (hc : ¬ NC n cy) : OCI n (oc + 1) (upd w (oc.toNatClampNeg) cy) := by
  intro j hj
  have e : (oc + 1).toInt = oc.toInt + 1 := by rw [Int32.toInt_add, show (1 : Int32).toInt = 1 from by decide, Int.bmod_eq_of_le] <;> omega
  by_cases h1 : j = oc.toNatClampNeg
  · subst h1; rw [pk_us]; exact hc
  · rw [pk_un h1]
    refine h j ?_
    have h2 : j ≠ oc.toInt.toNat := h1
    omega
set_option maxRecDepth 100000 in
set_option maxHeartbeats 4000000 in
theorem v_order (l : Launch) (g : Gt) (h0 : Nat) (q : Nat → Nat) (i : Nat → Int32) (L : Nat → Int64) (a25 : Nat → Int32) (a26 : Nat → Int32) (a27 : Nat → Int32) (a28 : Nat → Int32) (cy : Int32) (en : Int32) (d : Int32) (v : Int32) (h7 : 0 ≤ (i 7).toInt ∧ (i 7).toInt ≤ 6) (h24 : 0 ≤ (i 24).toInt ∧ (i 24).toInt ≤ 30) (h25 : RI a25) (h27 : RI a27) (hoc : OCI (i 7) (i 24) a25) : Ctr l g yX12_order wsX12_order ({ frames := 2, cells := 0, slots := 0, locals := 46 } : Room) [.ref h0, .int cy, .int en, .int d, .int v] [(h0, .inr (12, mO q i L)), ((q 25), .inl (g.2 0, 30, .inl a25)), ((q 26), .inl (g.2 0, 30, .inl a26)), ((q 27), .inl (g.2 0, 30, .inl a27)), ((q 28), .inl (g.2 0, 30, .inl a28))] (fun A => QI g A (fun r (u : Int32 × (Nat → Int32) × (Nat → Int32) × (Nat → Int32) × (Nat → Int32)) => (r = so_r (i 7) (i 24) cy en d v) ∧ (u.1 = so_n (i 7) (i 24) cy en d v) ∧ (0 ≤ (u.1).toInt ∧ (u.1).toInt ≤ 30) ∧ (RI u.2.1) ∧ (RI u.2.2.2.1) ∧ (OCI (i 7) u.1 u.2.1) ∧ (u.2.1 = or_u (i 7) (i 24) cy en d v a25 cy) ∧ (u.2.2.1 = or_u (i 7) (i 24) cy en d v a26 en) ∧ (u.2.2.2.1 = or_u (i 7) (i 24) cy en d v a27 d) ∧ (u.2.2.2.2 = or_u (i 7) (i 24) cy en d v a28 v)) (fun (u : Int32 × (Nat → Int32) × (Nat → Int32) × (Nat → Int32) × (Nat → Int32)) => [(h0, .inr (12, mO q (upd i 24 u.1) L)), ((q 25), .inl (g.2 0, 30, .inl u.2.1)), ((q 26), .inl (g.2 0, 30, .inl u.2.2.1)), ((q 27), .inl (g.2 0, 30, .inl u.2.2.2.1)), ((q 28), .inl (g.2 0, 30, .inl u.2.2.2.2))])) := by
  refine Ctr.of (cc := cX12_order) (maxL := 5) (ret := (some .int)) (by decide) rfl (Nat.le_of_ble_eq_true rfl) ?_
  intro p e s m below meth c A ls H C hP hD hA hS hl
  obtain ⟨hx, hb, hr, hts, hown, hlocks, hml, hin, hKN⟩ := id C
  have hK := hKN.1
  have hN := hKN.2
  have F : CallFix p m c cX12_order 5 s _ wsX12_order yX12_order.cls := ⟨hx, hb, hml, hown, hts⟩
  have hl : lv_has ls 5 [(0, .ref h0), (1, .int cy), (2, .int en), (3, .int d), (4, .int v)] := hl
  refine lv_aload_n hx hb dX12_order_0 rfl (lv_at hl 0 rfl) ?_
  refine lv_iload_n hx hb dX12_order_1 rfl (lv_at hl 1 rfl) ?_
  refine kI (rnV (As := [.int cy]) (rest := []) (Cn := RX12) C (g_noCylinder l g h0 q i L cy) 1 gX12_order_X12_noCylinder rfl (by decide +kernel) ⟨(Nat.le_of_ble_eq_true rfl), (Nat.le_of_ble_eq_true rfl)⟩ hP (k := 0) (ci := 12) rfl rfl rfl rfl hl.1 rfl (Nat.le_of_ble_eq_true rfl) dX12_order_2 ⟨(Nat.le_of_ble_eq_true rfl), (Nat.le_of_ble_eq_true rfl)⟩) (spM0 [true, false, false, false, false] hP hD rfl) hA hS (fun r1 u2 H locs hw hP hD hS => ?_)
  have hre := hw
  replace hP : va_P g.1 vwCl [(h0, .inr (12, mO q i L)), ((q 25), .inl (g.2 0, 30, .inl a25)), ((q 26), .inl (g.2 0, 30, .inl a26)), ((q 27), .inl (g.2 0, 30, .inl a27)), ((q 28), .inl (g.2 0, 30, .inl a28))] H := hP
  replace hD : va_D A [(h0, .inr (12, mO q i L)), ((q 25), .inl (g.2 0, 30, .inl a25)), ((q 26), .inl (g.2 0, 30, .inl a26)), ((q 27), .inl (g.2 0, 30, .inl a27)), ((q 28), .inl (g.2 0, 30, .inl a28))] := hD
  refine nx_i (v := (r_g_noCylinder i cy)) hre ?_
  refine lv_if_ne (tgt := 16) hx hb dX12_order_5 (by decide) (fun c3 => ?_) (fun c3 => ?_)
  · refine lv_iconst (v := -1) hx hb dX12_order_16 (by decide) ?_
    exact retI C hS ((i 24), a25, a26, a27, a28) ⟨(by simp only [so_r, if_pos h7, if_pos h24, if_pos h25, if_pos h27, if_pos hoc, if_pos (nc_y h7 c3)]), (by simp only [so_n, if_pos h7, if_pos h24, if_pos h25, if_pos h27, if_pos hoc, if_pos (nc_y h7 c3)]), h24, h25, h27, hoc, (by simp only [or_u, if_pos h7, if_pos h24, if_pos h25, if_pos h27, if_pos hoc, if_pos (nc_y h7 c3)]), (by simp only [or_u, if_pos h7, if_pos h24, if_pos h25, if_pos h27, if_pos hoc, if_pos (nc_y h7 c3)]), (by simp only [or_u, if_pos h7, if_pos h24, if_pos h25, if_pos h27, if_pos hoc, if_pos (nc_y h7 c3)]), (by simp only [or_u, if_pos h7, if_pos h24, if_pos h25, if_pos h27, if_pos hoc, if_pos (nc_y h7 c3)])⟩ hP hD (Nat.le_of_ble_eq_true rfl) (Nat.le_of_ble_eq_true rfl) dX12_order_17
  refine lv_aload_n hx hb dX12_order_8 rfl (lv_at hl 0 rfl) ?_
  refine lv_iload_n hx hb dX12_order_9 rfl (lv_at hl 3 rfl) ?_
  refine kI (rnV (As := [.int d]) (rest := []) (Cn := RX12) C (g_noCylinder l g h0 q i L d) 1 gX12_order_X12_noCylinder rfl (by decide +kernel) ⟨(Nat.le_of_ble_eq_true rfl), (Nat.le_of_ble_eq_true rfl)⟩ hP (k := 0) (ci := 12) rfl rfl rfl rfl hl.1 rfl (Nat.le_of_ble_eq_true rfl) dX12_order_10 ⟨(Nat.le_of_ble_eq_true rfl), (Nat.le_of_ble_eq_true rfl)⟩) (spM0 [true, false, false, false, false] hP hD rfl) hA hS (fun r4 u5 H locs hw hP hD hS => ?_)
  have hre := hw
  replace hP : va_P g.1 vwCl [(h0, .inr (12, mO q i L)), ((q 25), .inl (g.2 0, 30, .inl a25)), ((q 26), .inl (g.2 0, 30, .inl a26)), ((q 27), .inl (g.2 0, 30, .inl a27)), ((q 28), .inl (g.2 0, 30, .inl a28))] H := hP
  replace hD : va_D A [(h0, .inr (12, mO q i L)), ((q 25), .inl (g.2 0, 30, .inl a25)), ((q 26), .inl (g.2 0, 30, .inl a26)), ((q 27), .inl (g.2 0, 30, .inl a27)), ((q 28), .inl (g.2 0, 30, .inl a28))] := hD
  refine nx_i (v := (r_g_noCylinder i d)) hre ?_
  refine lv_if_eq (tgt := 18) hx hb dX12_order_13 (by decide) (fun c6 => ?_) (fun c6 => ?_)
  · refine lv_iload_n hx hb dX12_order_18 rfl (lv_at hl 2 rfl) ?_
    refine lv_i2l hx hb dX12_order_19 rfl ?_
    refine lv_lconst (v := 0) hx hb dX12_order_20 (by decide) ?_
    refine lv_ldc2 (v := 2) hx hb hown (hts (.constantLong RX12 162 (2)) (List.mem_of_getElem? (i := 1) rfl)) dX12_order_21 ?_
    refine pureIS (As := [.long (Int32.toInt64 en), .long 0, .long 2]) (rest := []) F (c_in l (Int32.toInt64 en) 0 2) 3 gX12_order_X12_in rfl (by decide +kernel) rfl rfl ⟨(Nat.le_of_ble_eq_true rfl), (Nat.le_of_ble_eq_true rfl)⟩ (Nat.le_of_ble_eq_true rfl) (Nat.le_of_ble_eq_true rfl) rfl hl.1 rfl (Nat.le_of_ble_eq_true rfl) dX12_order_24 ?_
    refine lv_if_eq (tgt := 43) hx hb dX12_order_27 (by decide) (fun c7 => ?_) (fun c7 => ?_)
    · refine lv_bipush (v := -2) hx hb dX12_order_43 (by decide) ?_
      exact retI C hS ((i 24), a25, a26, a27, a28) ⟨(by simp only [so_r, if_pos h7, if_pos h24, if_pos h25, if_pos h27, if_pos hoc, if_neg (nc_n h7 c3), if_neg (nc_n h7 c6), if_pos (show r_c_within en 0 2 = 0 from (in_within en 0 2).symm.trans c7)]), (by simp only [so_n, if_pos h7, if_pos h24, if_pos h25, if_pos h27, if_pos hoc, if_neg (nc_n h7 c3), if_neg (nc_n h7 c6), if_pos (show r_c_within en 0 2 = 0 from (in_within en 0 2).symm.trans c7)]), h24, h25, h27, hoc, (by simp only [or_u, if_pos h7, if_pos h24, if_pos h25, if_pos h27, if_pos hoc, if_neg (nc_n h7 c3), if_neg (nc_n h7 c6), if_pos (show r_c_within en 0 2 = 0 from (in_within en 0 2).symm.trans c7)]), (by simp only [or_u, if_pos h7, if_pos h24, if_pos h25, if_pos h27, if_pos hoc, if_neg (nc_n h7 c3), if_neg (nc_n h7 c6), if_pos (show r_c_within en 0 2 = 0 from (in_within en 0 2).symm.trans c7)]), (by simp only [or_u, if_pos h7, if_pos h24, if_pos h25, if_pos h27, if_pos hoc, if_neg (nc_n h7 c3), if_neg (nc_n h7 c6), if_pos (show r_c_within en 0 2 = 0 from (in_within en 0 2).symm.trans c7)]), (by simp only [or_u, if_pos h7, if_pos h24, if_pos h25, if_pos h27, if_pos hoc, if_neg (nc_n h7 c3), if_neg (nc_n h7 c6), if_pos (show r_c_within en 0 2 = 0 from (in_within en 0 2).symm.trans c7)])⟩ hP hD (Nat.le_of_ble_eq_true rfl) (Nat.le_of_ble_eq_true rfl) dX12_order_45
    refine lv_iload hx hb dX12_order_30 (lv_at hl 4 rfl) ?_
    refine lv_i2l hx hb dX12_order_32 rfl ?_
    refine lv_lconst (v := 0) hx hb dX12_order_33 (by decide) ?_
    refine lv_ldc2 (v := 2) hx hb hown (hts (.constantLong RX12 162 (2)) (List.mem_of_getElem? (i := 1) rfl)) dX12_order_34 ?_
    refine pureIS (As := [.long (Int32.toInt64 v), .long 0, .long 2]) (rest := []) F (c_in l (Int32.toInt64 v) 0 2) 3 gX12_order_X12_in rfl (by decide +kernel) rfl rfl ⟨(Nat.le_of_ble_eq_true rfl), (Nat.le_of_ble_eq_true rfl)⟩ (Nat.le_of_ble_eq_true rfl) (Nat.le_of_ble_eq_true rfl) rfl hl.1 rfl (Nat.le_of_ble_eq_true rfl) dX12_order_37 ?_
    refine lv_if_ne (tgt := 46) hx hb dX12_order_40 (by decide) (fun c8 => ?_) (fun c8 => ?_)
    · refine lv_aload_n hx hb dX12_order_46 rfl (lv_at hl 0 rfl) ?_
      refine va_get (D := g.1) (ci := 12) (v := .int (i 24)) (C := RX12) (T := TX12) (N := 66) hx hb hts hw_X12_order_X12 hown hK hP 0 rfl rfl 24 (by decide) (hts (.fieldLink RX12 221 "OilPushModel" "orders" "I") (List.mem_of_getElem? (i := 2) rfl)) (fun _ h => h) rfl dX12_order_47 ?_
      refine lv_bipush (v := 30) hx hb dX12_order_50 (by decide) ?_
      refine lv_icmp_ne (tgt := 58) hx hb dX12_order_52 (by decide) (fun c9 => ?_) (fun c9 => ?_)
      · refine lv_aload_n hx hb dX12_order_58 rfl (lv_at hl 0 rfl) ?_
        refine va_get (D := g.1) (ci := 12) (v := .ref (q 25)) (C := RX12) (T := TX12) (N := 66) hx hb hts hw_X12_order_X12 hown hK hP 0 rfl rfl 25 (by decide) (hts (.fieldLink RX12 59 "OilPushModel" "orderC" "[I") (List.mem_of_getElem? (i := 3) rfl)) (fun _ h => h) rfl dX12_order_59 ?_
        refine lv_aload_n hx hb dX12_order_62 rfl (lv_at hl 0 rfl) ?_
        refine va_get (D := g.1) (ci := 12) (v := .int (i 24)) (C := RX12) (T := TX12) (N := 66) hx hb hts hw_X12_order_X12 hown hK hP 0 rfl rfl 24 (by decide) (hts (.fieldLink RX12 221 "OilPushModel" "orders" "I") (List.mem_of_getElem? (i := 2) rfl)) (fun _ h => h) rfl dX12_order_63 ?_
        refine lv_iload_n hx hb dX12_order_66 rfl (lv_at hl 1 rfl) ?_
        refine va_iast hx hb hK hP hD hS 1 0 rfl rfl (at_full (by decide) h24 c9) dX12_order_67 (fun H locs hP hD hS => ?_)
        replace hP : va_P g.1 vwCl [(h0, .inr (12, mO q i L)), ((q 25), .inl (g.2 0, 30, .inl (upd a25 ((i 24).toNatClampNeg) cy))), ((q 26), .inl (g.2 0, 30, .inl a26)), ((q 27), .inl (g.2 0, 30, .inl a27)), ((q 28), .inl (g.2 0, 30, .inl a28))] H := hP
        replace hD : va_D A [(h0, .inr (12, mO q i L)), ((q 25), .inl (g.2 0, 30, .inl (upd a25 ((i 24).toNatClampNeg) cy))), ((q 26), .inl (g.2 0, 30, .inl a26)), ((q 27), .inl (g.2 0, 30, .inl a27)), ((q 28), .inl (g.2 0, 30, .inl a28))] := hD
        refine lv_aload_n hx hb dX12_order_68 rfl (lv_at hl 0 rfl) ?_
        refine va_get (D := g.1) (ci := 12) (v := .ref (q 26)) (C := RX12) (T := TX12) (N := 66) hx hb hts hw_X12_order_X12 hown hK hP 0 rfl rfl 26 (by decide) (hts (.fieldLink RX12 62 "OilPushModel" "orderEnd" "[I") (List.mem_of_getElem? (i := 4) rfl)) (fun _ h => h) rfl dX12_order_69 ?_
        refine lv_aload_n hx hb dX12_order_72 rfl (lv_at hl 0 rfl) ?_
        refine va_get (D := g.1) (ci := 12) (v := .int (i 24)) (C := RX12) (T := TX12) (N := 66) hx hb hts hw_X12_order_X12 hown hK hP 0 rfl rfl 24 (by decide) (hts (.fieldLink RX12 221 "OilPushModel" "orders" "I") (List.mem_of_getElem? (i := 2) rfl)) (fun _ h => h) rfl dX12_order_73 ?_
        refine lv_iload_n hx hb dX12_order_76 rfl (lv_at hl 2 rfl) ?_
        refine va_iast hx hb hK hP hD hS 2 0 rfl rfl (at_full (by decide) h24 c9) dX12_order_77 (fun H locs hP hD hS => ?_)
        replace hP : va_P g.1 vwCl [(h0, .inr (12, mO q i L)), ((q 25), .inl (g.2 0, 30, .inl (upd a25 ((i 24).toNatClampNeg) cy))), ((q 26), .inl (g.2 0, 30, .inl (upd a26 ((i 24).toNatClampNeg) en))), ((q 27), .inl (g.2 0, 30, .inl a27)), ((q 28), .inl (g.2 0, 30, .inl a28))] H := hP
        replace hD : va_D A [(h0, .inr (12, mO q i L)), ((q 25), .inl (g.2 0, 30, .inl (upd a25 ((i 24).toNatClampNeg) cy))), ((q 26), .inl (g.2 0, 30, .inl (upd a26 ((i 24).toNatClampNeg) en))), ((q 27), .inl (g.2 0, 30, .inl a27)), ((q 28), .inl (g.2 0, 30, .inl a28))] := hD
        refine lv_aload_n hx hb dX12_order_78 rfl (lv_at hl 0 rfl) ?_
        refine va_get (D := g.1) (ci := 12) (v := .ref (q 27)) (C := RX12) (T := TX12) (N := 66) hx hb hts hw_X12_order_X12 hown hK hP 0 rfl rfl 27 (by decide) (hts (.fieldLink RX12 65 "OilPushModel" "orderD" "[I") (List.mem_of_getElem? (i := 5) rfl)) (fun _ h => h) rfl dX12_order_79 ?_
        refine lv_aload_n hx hb dX12_order_82 rfl (lv_at hl 0 rfl) ?_
        refine va_get (D := g.1) (ci := 12) (v := .int (i 24)) (C := RX12) (T := TX12) (N := 66) hx hb hts hw_X12_order_X12 hown hK hP 0 rfl rfl 24 (by decide) (hts (.fieldLink RX12 221 "OilPushModel" "orders" "I") (List.mem_of_getElem? (i := 2) rfl)) (fun _ h => h) rfl dX12_order_83 ?_
        refine lv_iload_n hx hb dX12_order_86 rfl (lv_at hl 3 rfl) ?_
        refine va_iast hx hb hK hP hD hS 3 0 rfl rfl (at_full (by decide) h24 c9) dX12_order_87 (fun H locs hP hD hS => ?_)
        replace hP : va_P g.1 vwCl [(h0, .inr (12, mO q i L)), ((q 25), .inl (g.2 0, 30, .inl (upd a25 ((i 24).toNatClampNeg) cy))), ((q 26), .inl (g.2 0, 30, .inl (upd a26 ((i 24).toNatClampNeg) en))), ((q 27), .inl (g.2 0, 30, .inl (upd a27 ((i 24).toNatClampNeg) d))), ((q 28), .inl (g.2 0, 30, .inl a28))] H := hP
        replace hD : va_D A [(h0, .inr (12, mO q i L)), ((q 25), .inl (g.2 0, 30, .inl (upd a25 ((i 24).toNatClampNeg) cy))), ((q 26), .inl (g.2 0, 30, .inl (upd a26 ((i 24).toNatClampNeg) en))), ((q 27), .inl (g.2 0, 30, .inl (upd a27 ((i 24).toNatClampNeg) d))), ((q 28), .inl (g.2 0, 30, .inl a28))] := hD
        refine lv_aload_n hx hb dX12_order_88 rfl (lv_at hl 0 rfl) ?_
        refine va_get (D := g.1) (ci := 12) (v := .ref (q 28)) (C := RX12) (T := TX12) (N := 66) hx hb hts hw_X12_order_X12 hown hK hP 0 rfl rfl 28 (by decide) (hts (.fieldLink RX12 68 "OilPushModel" "orderV" "[I") (List.mem_of_getElem? (i := 6) rfl)) (fun _ h => h) rfl dX12_order_89 ?_
        refine lv_aload_n hx hb dX12_order_92 rfl (lv_at hl 0 rfl) ?_
        refine va_get (D := g.1) (ci := 12) (v := .int (i 24)) (C := RX12) (T := TX12) (N := 66) hx hb hts hw_X12_order_X12 hown hK hP 0 rfl rfl 24 (by decide) (hts (.fieldLink RX12 221 "OilPushModel" "orders" "I") (List.mem_of_getElem? (i := 2) rfl)) (fun _ h => h) rfl dX12_order_93 ?_
        refine lv_iload hx hb dX12_order_96 (lv_at hl 4 rfl) ?_
        refine va_iast hx hb hK hP hD hS 4 0 rfl rfl (at_full (by decide) h24 c9) dX12_order_98 (fun H locs hP hD hS => ?_)
        replace hP : va_P g.1 vwCl [(h0, .inr (12, mO q i L)), ((q 25), .inl (g.2 0, 30, .inl (upd a25 ((i 24).toNatClampNeg) cy))), ((q 26), .inl (g.2 0, 30, .inl (upd a26 ((i 24).toNatClampNeg) en))), ((q 27), .inl (g.2 0, 30, .inl (upd a27 ((i 24).toNatClampNeg) d))), ((q 28), .inl (g.2 0, 30, .inl (upd a28 ((i 24).toNatClampNeg) v)))] H := hP
        replace hD : va_D A [(h0, .inr (12, mO q i L)), ((q 25), .inl (g.2 0, 30, .inl (upd a25 ((i 24).toNatClampNeg) cy))), ((q 26), .inl (g.2 0, 30, .inl (upd a26 ((i 24).toNatClampNeg) en))), ((q 27), .inl (g.2 0, 30, .inl (upd a27 ((i 24).toNatClampNeg) d))), ((q 28), .inl (g.2 0, 30, .inl (upd a28 ((i 24).toNatClampNeg) v)))] := hD
        refine lv_aload_n hx hb dX12_order_99 rfl (lv_at hl 0 rfl) ?_
        refine lv_dup hx hb dX12_order_100 rfl ?_
        refine va_get (D := g.1) (ci := 12) (v := .int (i 24)) (C := RX12) (T := TX12) (N := 66) hx hb hts hw_X12_order_X12 hown hK hP 0 rfl rfl 24 (by decide) (hts (.fieldLink RX12 221 "OilPushModel" "orders" "I") (List.mem_of_getElem? (i := 2) rfl)) (fun _ h => h) rfl dX12_order_101 ?_
        refine lv_iconst (v := 1) hx hb dX12_order_104 (by decide) ?_
        refine lv_iadd hx hb dX12_order_105 ?_
        refine va_put (D := g.1) (ci := 12) (v := .int ((i 24) + 1)) (ty := .int) (C := RX12) (T := TX12) (N := 66) hx hb hts hw_X12_order_X12 tyX12 tyX12_ok nmX12 hown hK hP hD hS 0 rfl rfl 24 (by decide) (hts (.fieldLink RX12 221 "OilPushModel" "orders" "I") (List.mem_of_getElem? (i := 2) rfl)) (fun _ h => h) rfl (by decide +kernel) rfl rfl (Nat.le_of_ble_eq_true rfl) dX12_order_106 (fun H locs hP hD hS => ?_)
        replace hP : va_P g.1 vwCl [(h0, .inr (12, mO q (upd i 24 ((i 24) + 1)) L)), ((q 25), .inl (g.2 0, 30, .inl (upd a25 ((i 24).toNatClampNeg) cy))), ((q 26), .inl (g.2 0, 30, .inl (upd a26 ((i 24).toNatClampNeg) en))), ((q 27), .inl (g.2 0, 30, .inl (upd a27 ((i 24).toNatClampNeg) d))), ((q 28), .inl (g.2 0, 30, .inl (upd a28 ((i 24).toNatClampNeg) v)))] H := hP
        replace hD : va_D A [(h0, .inr (12, mO q (upd i 24 ((i 24) + 1)) L)), ((q 25), .inl (g.2 0, 30, .inl (upd a25 ((i 24).toNatClampNeg) cy))), ((q 26), .inl (g.2 0, 30, .inl (upd a26 ((i 24).toNatClampNeg) en))), ((q 27), .inl (g.2 0, 30, .inl (upd a27 ((i 24).toNatClampNeg) d))), ((q 28), .inl (g.2 0, 30, .inl (upd a28 ((i 24).toNatClampNeg) v)))] := hD
        refine lv_aload_n hx hb dX12_order_109 rfl (lv_at hl 0 rfl) ?_
        refine va_get (D := g.1) (ci := 12) (v := .int ((i 24) + 1)) (C := RX12) (T := TX12) (N := 66) hx hb hts hw_X12_order_X12 hown hK hP 0 rfl rfl 24 (by decide) (hts (.fieldLink RX12 221 "OilPushModel" "orders" "I") (List.mem_of_getElem? (i := 2) rfl)) (fun _ h => h) rfl dX12_order_110 ?_
        exact retI C hS (((i 24) + 1), (upd a25 ((i 24).toNatClampNeg) cy), (upd a26 ((i 24).toNatClampNeg) en), (upd a27 ((i 24).toNatClampNeg) d), (upd a28 ((i 24).toNatClampNeg) v)) ⟨(by simp only [so_r, if_pos h7, if_pos h24, if_pos h25, if_pos h27, if_pos hoc, if_neg (nc_n h7 c3), if_neg (nc_n h7 c6), if_neg (show ¬ r_c_within en 0 2 = 0 from fun e9 => c7 ((in_within en 0 2).trans e9)), if_neg (show ¬ r_c_within v 0 2 = 0 from fun e9 => c8 ((in_within v 0 2).trans e9)), if_pos (lt_full h24.2 c9), if_neg c9, (show ∀ v9 : Int32, r_c_set 30 a25 (i 24) v9 = upd a25 ((i 24).toNatClampNeg) v9 from fun v9 => set_in (at_full (by decide) h24 c9) (by decide)), (show ∀ v9 : Int32, r_c_set 30 a26 (i 24) v9 = upd a26 ((i 24).toNatClampNeg) v9 from fun v9 => set_in (at_full (by decide) h24 c9) (by decide)), (show ∀ v9 : Int32, r_c_set 30 a27 (i 24) v9 = upd a27 ((i 24).toNatClampNeg) v9 from fun v9 => set_in (at_full (by decide) h24 c9) (by decide)), (show ∀ v9 : Int32, r_c_set 30 a28 (i 24) v9 = upd a28 ((i 24).toNatClampNeg) v9 from fun v9 => set_in (at_full (by decide) h24 c9) (by decide))]), (by simp only [so_n, if_pos h7, if_pos h24, if_pos h25, if_pos h27, if_pos hoc, if_neg (nc_n h7 c3), if_neg (nc_n h7 c6), if_neg (show ¬ r_c_within en 0 2 = 0 from fun e9 => c7 ((in_within en 0 2).trans e9)), if_neg (show ¬ r_c_within v 0 2 = 0 from fun e9 => c8 ((in_within v 0 2).trans e9)), if_pos (lt_full h24.2 c9), if_neg c9, (show ∀ v9 : Int32, r_c_set 30 a25 (i 24) v9 = upd a25 ((i 24).toNatClampNeg) v9 from fun v9 => set_in (at_full (by decide) h24 c9) (by decide)), (show ∀ v9 : Int32, r_c_set 30 a26 (i 24) v9 = upd a26 ((i 24).toNatClampNeg) v9 from fun v9 => set_in (at_full (by decide) h24 c9) (by decide)), (show ∀ v9 : Int32, r_c_set 30 a27 (i 24) v9 = upd a27 ((i 24).toNatClampNeg) v9 from fun v9 => set_in (at_full (by decide) h24 c9) (by decide)), (show ∀ v9 : Int32, r_c_set 30 a28 (i 24) v9 = upd a28 ((i 24).toNatClampNeg) v9 from fun v9 => set_in (at_full (by decide) h24 c9) (by decide))]), (full_inc (n := 30) (by decide) h24 c9 (by decide)), (RI.upd h25 (noCyl_in h7 c3).1), (RI.upd h27 (noCyl_in h7 c6).1), (oci_add hoc h24 (nc_n h7 c3)), (by simp only [or_u, if_pos h7, if_pos h24, if_pos h25, if_pos h27, if_pos hoc, if_neg (nc_n h7 c3), if_neg (nc_n h7 c6), if_neg (show ¬ r_c_within en 0 2 = 0 from fun e9 => c7 ((in_within en 0 2).trans e9)), if_neg (show ¬ r_c_within v 0 2 = 0 from fun e9 => c8 ((in_within v 0 2).trans e9)), if_pos (lt_full h24.2 c9), if_neg c9, (show ∀ v9 : Int32, r_c_set 30 a25 (i 24) v9 = upd a25 ((i 24).toNatClampNeg) v9 from fun v9 => set_in (at_full (by decide) h24 c9) (by decide)), (show ∀ v9 : Int32, r_c_set 30 a26 (i 24) v9 = upd a26 ((i 24).toNatClampNeg) v9 from fun v9 => set_in (at_full (by decide) h24 c9) (by decide)), (show ∀ v9 : Int32, r_c_set 30 a27 (i 24) v9 = upd a27 ((i 24).toNatClampNeg) v9 from fun v9 => set_in (at_full (by decide) h24 c9) (by decide)), (show ∀ v9 : Int32, r_c_set 30 a28 (i 24) v9 = upd a28 ((i 24).toNatClampNeg) v9 from fun v9 => set_in (at_full (by decide) h24 c9) (by decide))]), (by simp only [or_u, if_pos h7, if_pos h24, if_pos h25, if_pos h27, if_pos hoc, if_neg (nc_n h7 c3), if_neg (nc_n h7 c6), if_neg (show ¬ r_c_within en 0 2 = 0 from fun e9 => c7 ((in_within en 0 2).trans e9)), if_neg (show ¬ r_c_within v 0 2 = 0 from fun e9 => c8 ((in_within v 0 2).trans e9)), if_pos (lt_full h24.2 c9), if_neg c9, (show ∀ v9 : Int32, r_c_set 30 a25 (i 24) v9 = upd a25 ((i 24).toNatClampNeg) v9 from fun v9 => set_in (at_full (by decide) h24 c9) (by decide)), (show ∀ v9 : Int32, r_c_set 30 a26 (i 24) v9 = upd a26 ((i 24).toNatClampNeg) v9 from fun v9 => set_in (at_full (by decide) h24 c9) (by decide)), (show ∀ v9 : Int32, r_c_set 30 a27 (i 24) v9 = upd a27 ((i 24).toNatClampNeg) v9 from fun v9 => set_in (at_full (by decide) h24 c9) (by decide)), (show ∀ v9 : Int32, r_c_set 30 a28 (i 24) v9 = upd a28 ((i 24).toNatClampNeg) v9 from fun v9 => set_in (at_full (by decide) h24 c9) (by decide))]), (by simp only [or_u, if_pos h7, if_pos h24, if_pos h25, if_pos h27, if_pos hoc, if_neg (nc_n h7 c3), if_neg (nc_n h7 c6), if_neg (show ¬ r_c_within en 0 2 = 0 from fun e9 => c7 ((in_within en 0 2).trans e9)), if_neg (show ¬ r_c_within v 0 2 = 0 from fun e9 => c8 ((in_within v 0 2).trans e9)), if_pos (lt_full h24.2 c9), if_neg c9, (show ∀ v9 : Int32, r_c_set 30 a25 (i 24) v9 = upd a25 ((i 24).toNatClampNeg) v9 from fun v9 => set_in (at_full (by decide) h24 c9) (by decide)), (show ∀ v9 : Int32, r_c_set 30 a26 (i 24) v9 = upd a26 ((i 24).toNatClampNeg) v9 from fun v9 => set_in (at_full (by decide) h24 c9) (by decide)), (show ∀ v9 : Int32, r_c_set 30 a27 (i 24) v9 = upd a27 ((i 24).toNatClampNeg) v9 from fun v9 => set_in (at_full (by decide) h24 c9) (by decide)), (show ∀ v9 : Int32, r_c_set 30 a28 (i 24) v9 = upd a28 ((i 24).toNatClampNeg) v9 from fun v9 => set_in (at_full (by decide) h24 c9) (by decide))]), (by simp only [or_u, if_pos h7, if_pos h24, if_pos h25, if_pos h27, if_pos hoc, if_neg (nc_n h7 c3), if_neg (nc_n h7 c6), if_neg (show ¬ r_c_within en 0 2 = 0 from fun e9 => c7 ((in_within en 0 2).trans e9)), if_neg (show ¬ r_c_within v 0 2 = 0 from fun e9 => c8 ((in_within v 0 2).trans e9)), if_pos (lt_full h24.2 c9), if_neg c9, (show ∀ v9 : Int32, r_c_set 30 a25 (i 24) v9 = upd a25 ((i 24).toNatClampNeg) v9 from fun v9 => set_in (at_full (by decide) h24 c9) (by decide)), (show ∀ v9 : Int32, r_c_set 30 a26 (i 24) v9 = upd a26 ((i 24).toNatClampNeg) v9 from fun v9 => set_in (at_full (by decide) h24 c9) (by decide)), (show ∀ v9 : Int32, r_c_set 30 a27 (i 24) v9 = upd a27 ((i 24).toNatClampNeg) v9 from fun v9 => set_in (at_full (by decide) h24 c9) (by decide)), (show ∀ v9 : Int32, r_c_set 30 a28 (i 24) v9 = upd a28 ((i 24).toNatClampNeg) v9 from fun v9 => set_in (at_full (by decide) h24 c9) (by decide))])⟩ hP hD (Nat.le_of_ble_eq_true rfl) (Nat.le_of_ble_eq_true rfl) dX12_order_113
      refine lv_bipush (v := -4) hx hb dX12_order_55 (by decide) ?_
      exact retI C hS ((i 24), a25, a26, a27, a28) ⟨(by simp only [so_r, if_pos h7, if_pos h24, if_pos h25, if_pos h27, if_pos hoc, if_neg (nc_n h7 c3), if_neg (nc_n h7 c6), if_neg (show ¬ r_c_within en 0 2 = 0 from fun e9 => c7 ((in_within en 0 2).trans e9)), if_neg (show ¬ r_c_within v 0 2 = 0 from fun e9 => c8 ((in_within v 0 2).trans e9)), if_neg (nlt_full c9), if_pos c9]), (by simp only [so_n, if_pos h7, if_pos h24, if_pos h25, if_pos h27, if_pos hoc, if_neg (nc_n h7 c3), if_neg (nc_n h7 c6), if_neg (show ¬ r_c_within en 0 2 = 0 from fun e9 => c7 ((in_within en 0 2).trans e9)), if_neg (show ¬ r_c_within v 0 2 = 0 from fun e9 => c8 ((in_within v 0 2).trans e9)), if_neg (nlt_full c9), if_pos c9]), h24, h25, h27, hoc, (by simp only [or_u, if_pos h7, if_pos h24, if_pos h25, if_pos h27, if_pos hoc, if_neg (nc_n h7 c3), if_neg (nc_n h7 c6), if_neg (show ¬ r_c_within en 0 2 = 0 from fun e9 => c7 ((in_within en 0 2).trans e9)), if_neg (show ¬ r_c_within v 0 2 = 0 from fun e9 => c8 ((in_within v 0 2).trans e9)), if_neg (nlt_full c9), if_pos c9]), (by simp only [or_u, if_pos h7, if_pos h24, if_pos h25, if_pos h27, if_pos hoc, if_neg (nc_n h7 c3), if_neg (nc_n h7 c6), if_neg (show ¬ r_c_within en 0 2 = 0 from fun e9 => c7 ((in_within en 0 2).trans e9)), if_neg (show ¬ r_c_within v 0 2 = 0 from fun e9 => c8 ((in_within v 0 2).trans e9)), if_neg (nlt_full c9), if_pos c9]), (by simp only [or_u, if_pos h7, if_pos h24, if_pos h25, if_pos h27, if_pos hoc, if_neg (nc_n h7 c3), if_neg (nc_n h7 c6), if_neg (show ¬ r_c_within en 0 2 = 0 from fun e9 => c7 ((in_within en 0 2).trans e9)), if_neg (show ¬ r_c_within v 0 2 = 0 from fun e9 => c8 ((in_within v 0 2).trans e9)), if_neg (nlt_full c9), if_pos c9]), (by simp only [or_u, if_pos h7, if_pos h24, if_pos h25, if_pos h27, if_pos hoc, if_neg (nc_n h7 c3), if_neg (nc_n h7 c6), if_neg (show ¬ r_c_within en 0 2 = 0 from fun e9 => c7 ((in_within en 0 2).trans e9)), if_neg (show ¬ r_c_within v 0 2 = 0 from fun e9 => c8 ((in_within v 0 2).trans e9)), if_neg (nlt_full c9), if_pos c9])⟩ hP hD (Nat.le_of_ble_eq_true rfl) (Nat.le_of_ble_eq_true rfl) dX12_order_57
    refine lv_bipush (v := -2) hx hb dX12_order_43 (by decide) ?_
    exact retI C hS ((i 24), a25, a26, a27, a28) ⟨(by simp only [so_r, if_pos h7, if_pos h24, if_pos h25, if_pos h27, if_pos hoc, if_neg (nc_n h7 c3), if_neg (nc_n h7 c6), if_neg (show ¬ r_c_within en 0 2 = 0 from fun e9 => c7 ((in_within en 0 2).trans e9)), if_pos (show r_c_within v 0 2 = 0 from (in_within v 0 2).symm.trans c8)]), (by simp only [so_n, if_pos h7, if_pos h24, if_pos h25, if_pos h27, if_pos hoc, if_neg (nc_n h7 c3), if_neg (nc_n h7 c6), if_neg (show ¬ r_c_within en 0 2 = 0 from fun e9 => c7 ((in_within en 0 2).trans e9)), if_pos (show r_c_within v 0 2 = 0 from (in_within v 0 2).symm.trans c8)]), h24, h25, h27, hoc, (by simp only [or_u, if_pos h7, if_pos h24, if_pos h25, if_pos h27, if_pos hoc, if_neg (nc_n h7 c3), if_neg (nc_n h7 c6), if_neg (show ¬ r_c_within en 0 2 = 0 from fun e9 => c7 ((in_within en 0 2).trans e9)), if_pos (show r_c_within v 0 2 = 0 from (in_within v 0 2).symm.trans c8)]), (by simp only [or_u, if_pos h7, if_pos h24, if_pos h25, if_pos h27, if_pos hoc, if_neg (nc_n h7 c3), if_neg (nc_n h7 c6), if_neg (show ¬ r_c_within en 0 2 = 0 from fun e9 => c7 ((in_within en 0 2).trans e9)), if_pos (show r_c_within v 0 2 = 0 from (in_within v 0 2).symm.trans c8)]), (by simp only [or_u, if_pos h7, if_pos h24, if_pos h25, if_pos h27, if_pos hoc, if_neg (nc_n h7 c3), if_neg (nc_n h7 c6), if_neg (show ¬ r_c_within en 0 2 = 0 from fun e9 => c7 ((in_within en 0 2).trans e9)), if_pos (show r_c_within v 0 2 = 0 from (in_within v 0 2).symm.trans c8)]), (by simp only [or_u, if_pos h7, if_pos h24, if_pos h25, if_pos h27, if_pos hoc, if_neg (nc_n h7 c3), if_neg (nc_n h7 c6), if_neg (show ¬ r_c_within en 0 2 = 0 from fun e9 => c7 ((in_within en 0 2).trans e9)), if_pos (show r_c_within v 0 2 = 0 from (in_within v 0 2).symm.trans c8)])⟩ hP hD (Nat.le_of_ble_eq_true rfl) (Nat.le_of_ble_eq_true rfl) dX12_order_45
  refine lv_iconst (v := -1) hx hb dX12_order_16 (by decide) ?_
  exact retI C hS ((i 24), a25, a26, a27, a28) ⟨(by simp only [so_r, if_pos h7, if_pos h24, if_pos h25, if_pos h27, if_pos hoc, if_neg (nc_n h7 c3), if_pos (nc_y h7 c6)]), (by simp only [so_n, if_pos h7, if_pos h24, if_pos h25, if_pos h27, if_pos hoc, if_neg (nc_n h7 c3), if_pos (nc_y h7 c6)]), h24, h25, h27, hoc, (by simp only [or_u, if_pos h7, if_pos h24, if_pos h25, if_pos h27, if_pos hoc, if_neg (nc_n h7 c3), if_pos (nc_y h7 c6)]), (by simp only [or_u, if_pos h7, if_pos h24, if_pos h25, if_pos h27, if_pos hoc, if_neg (nc_n h7 c3), if_pos (nc_y h7 c6)]), (by simp only [or_u, if_pos h7, if_pos h24, if_pos h25, if_pos h27, if_pos hoc, if_neg (nc_n h7 c3), if_pos (nc_y h7 c6)]), (by simp only [or_u, if_pos h7, if_pos h24, if_pos h25, if_pos h27, if_pos hoc, if_neg (nc_n h7 c3), if_pos (nc_y h7 c6)])⟩ hP hD (Nat.le_of_ble_eq_true rfl) (Nat.le_of_ble_eq_true rfl) dX12_order_17
