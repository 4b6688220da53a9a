theorem hw_X12_put_X12 : ∀ w ∈ wsX120, w ∈ wsX12_put := fun w h => List.mem_cons_of_mem _ (List.mem_append_right _ h)
set_option maxRecDepth 100000 in
set_option maxHeartbeats 4000000 in
theorem w_put (l : Launch) (g : Gt) (h0 : Nat) (q : Nat → Nat) (i : Nat → Int32) (L : Nat → Int64) (a1 : Nat → Int32) (a2 : Nat → Int32) (a3 : Nat → Int32) (k : Int32) (ii : Int32) (v : Int32) (hSZ : SZ a1) : Ctr l g yX12_put wsX12_put ({ frames := 2, cells := 0, slots := 0, locals := 47 } : Room) [.ref h0, .int k, .int ii, .int v] [(h0, .inr (12, mO q i L)), ((q 1), .inl (g.2 0, 4, .inl a1)), ((q 2), .inl (g.2 0, 4, .inl a2)), ((q 3), .inl (g.2 0, 80, .inl a3))] (fun A => QI g A (fun r (u : Int32 × (Nat → Int32)) => True) (fun (u : Int32 × (Nat → Int32)) => [(h0, .inr (12, mO q (upd i 0 u.1) L)), ((q 1), .inl (g.2 0, 4, .inl a1)), ((q 2), .inl (g.2 0, 4, .inl a2)), ((q 3), .inl (g.2 0, 80, .inl u.2))])) := by
  refine Ctr.of (cc := cX12_put) (maxL := 4) (ret := (some .int)) (by decide) rfl (Nat.le_of_ble_eq_true rfl) ?_
  intro p e s m below meth c A ls H C hP hD hA hS hl
  obtain ⟨hx, hb, hr, hts, hown, hlocks, hml, hin, hKN⟩ := id C
  have hK := hKN.1
  have hN := hKN.2
  have F : CallFix p m c cX12_put 4 s _ wsX12_put yX12_put.cls := ⟨hx, hb, hml, hown, hts⟩
  have hl : lv_has ls 4 [(0, .ref h0), (1, .int k), (2, .int ii), (3, .int v)] := hl
  refine lv_iload_n hx hb dX12_put_0 rfl (lv_at hl 1 rfl) ?_
  refine pureIS (As := [.int k]) (rest := []) F (c_noSheet l k) 1 gX12_put_X12_noSheet rfl (by decide +kernel) rfl rfl ⟨(Nat.le_of_ble_eq_true rfl), (Nat.le_of_ble_eq_true rfl)⟩ (Nat.le_of_ble_eq_true rfl) (Nat.le_of_ble_eq_true rfl) rfl hl.1 rfl (Nat.le_of_ble_eq_true rfl) dX12_put_1 ?_
  refine lv_if_eq (tgt := 13) hx hb dX12_put_4 (by decide) (fun c1 => ?_) (fun c1 => ?_)
  · refine lv_aload_n hx hb dX12_put_13 rfl (lv_at hl 0 rfl) ?_
    refine lv_iload_n hx hb dX12_put_14 rfl (lv_at hl 1 rfl) ?_
    refine lv_iload_n hx hb dX12_put_15 rfl (lv_at hl 2 rfl) ?_
    refine kI (rnV (As := [.int k, .int ii]) (rest := []) (Cn := RX12) C (g_noCell l g h0 q i L a1 k ii (noSheet_in c1)) 2 gX12_put_X12_noCell rfl (by decide +kernel) ⟨(Nat.le_of_ble_eq_true rfl), (Nat.le_of_ble_eq_true rfl)⟩ hP (k := 0) (ci := 12) rfl rfl rfl rfl hl.1 rfl (Nat.le_of_ble_eq_true rfl) dX12_put_16 ⟨(Nat.le_of_ble_eq_true rfl), (Nat.le_of_ble_eq_true rfl)⟩) (spM0 [true, true, false, false] hP hD rfl) hA hS (fun r2 u3 H locs hw hP hD hS => ?_)
    have hre := hw
    replace hP : va_P g.1 vwCl [(h0, .inr (12, mO q i L)), ((q 1), .inl (g.2 0, 4, .inl a1)), ((q 2), .inl (g.2 0, 4, .inl a2)), ((q 3), .inl (g.2 0, 80, .inl a3))] H := hP
    replace hD : va_D A [(h0, .inr (12, mO q i L)), ((q 1), .inl (g.2 0, 4, .inl a1)), ((q 2), .inl (g.2 0, 4, .inl a2)), ((q 3), .inl (g.2 0, 80, .inl a3))] := hD
    refine nx_i (v := (r_g_noCell a1 k ii)) hre ?_
    refine lv_if_le (tgt := 33) hx hb dX12_put_19 (by decide) (fun c4 => ?_) (fun c4 => ?_)
    · refine lv_aload_n hx hb dX12_put_33 rfl (lv_at hl 0 rfl) ?_
      refine va_get (D := g.1) (ci := 12) (v := .ref (q 3)) (C := RX12) (T := TX12) (N := 66) hx hb hts hw_X12_put_X12 hown hK hP 0 rfl rfl 3 (by decide) (hts (.fieldLink RX12 16 "OilPushModel" "sheet" "[I") (List.mem_of_getElem? (i := 1) rfl)) (fun _ h => h) rfl dX12_put_34 ?_
      refine lv_bipush (v := 20) hx hb dX12_put_37 (by decide) ?_
      refine lv_iload_n hx hb dX12_put_39 rfl (lv_at hl 1 rfl) ?_
      refine lv_imul hx hb dX12_put_40 ?_
      refine lv_iload_n hx hb dX12_put_41 rfl (lv_at hl 2 rfl) ?_
      refine lv_iadd hx hb dX12_put_42 ?_
      refine lv_aload_n hx hb dX12_put_43 rfl (lv_at hl 0 rfl) ?_
      refine va_get (D := g.1) (ci := 12) (v := .ref (q 2)) (C := RX12) (T := TX12) (N := 66) hx hb hts hw_X12_put_X12 hown hK hP 0 rfl rfl 2 (by decide) (hts (.fieldLink RX12 13 "OilPushModel" "sheetLane" "[I") (List.mem_of_getElem? (i := 2) rfl)) (fun _ h => h) rfl dX12_put_44 ?_
      refine lv_iload_n hx hb dX12_put_47 rfl (lv_at hl 1 rfl) ?_
      refine va_iald hx hb hK hP 2 0 rfl rfl (noSheet_in c1) dX12_put_48 ?_
      refine W.join (pcJ := 73) (P := fun ls H locs st => ∃ z : Int32, lv_has ls 4 [(0, .ref h0), (1, .int k), (2, .int ii), (3, .int v)] ∧ st = [.int z, .int ((20 * k) + ii), .ref (q 3)] ∧ va_P g.1 vwCl [(h0, .inr (12, mO q i L)), ((q 1), .inl (g.2 0, 4, .inl a1)), ((q 2), .inl (g.2 0, 4, .inl a2)), ((q 3), .inl (g.2 0, 80, .inl a3))] H ∧ va_D A [(h0, .inr (12, mO q i L)), ((q 1), .inl (g.2 0, 4, .inl a1)), ((q 2), .inl (g.2 0, 4, .inl a2)), ((q 3), .inl (g.2 0, 80, .inl a3))] ∧ va_S A s.heap H locs) (fun J => ?_) (fun ls H locs st hJ => ?_)
      · refine lv_if_ne (tgt := 57) hx hb dX12_put_49 (by decide) (fun c5 => ?_) (fun c5 => ?_)
        · refine lv_aload_n hx hb dX12_put_57 rfl (lv_at hl 0 rfl) ?_
          refine va_get (D := g.1) (ci := 12) (v := .ref (q 2)) (C := RX12) (T := TX12) (N := 66) hx hb hts hw_X12_put_X12 hown hK hP 0 rfl rfl 2 (by decide) (hts (.fieldLink RX12 13 "OilPushModel" "sheetLane" "[I") (List.mem_of_getElem? (i := 2) rfl)) (fun _ h => h) rfl dX12_put_58 ?_
          refine lv_iload_n hx hb dX12_put_61 rfl (lv_at hl 1 rfl) ?_
          refine va_iald hx hb hK hP 2 0 rfl rfl (noSheet_in c1) dX12_put_62 ?_
          refine lv_iconst (v := 1) hx hb dX12_put_63 (by decide) ?_
          refine lv_icmp_ne (tgt := 72) hx hb dX12_put_64 (by decide) (fun c6 => ?_) (fun c6 => ?_)
          · refine lv_iload_n hx hb dX12_put_72 rfl (lv_at hl 3 rfl) ?_
            exact J ls H locs _ ⟨v, lv_sub hl [0, 1, 2, 3] rfl, rfl, hP, hD, hS⟩
          refine lv_iload_n hx hb dX12_put_67 rfl (lv_at hl 3 rfl) ?_
          refine lv_i2s hx hb dX12_put_68 rfl ?_
          refine lv_goto (tgt := 73) hx hb dX12_put_69 (by decide) ?_
          exact J ls H locs _ ⟨(v.toInt16.toInt32), lv_sub hl [0, 1, 2, 3] rfl, rfl, hP, hD, hS⟩
        refine lv_iload_n hx hb dX12_put_52 rfl (lv_at hl 3 rfl) ?_
        refine lv_i2b hx hb dX12_put_53 rfl ?_
        refine lv_goto (tgt := 73) hx hb dX12_put_54 (by decide) ?_
        exact J ls H locs _ ⟨(v.toInt8.toInt32), lv_sub hl [0, 1, 2, 3] rfl, rfl, hP, hD, hS⟩
      obtain ⟨j7, hl, hst, hP, hD, hS⟩ := hJ
      subst hst
      have hl : lv_has ls 4 [(0, .ref h0), (1, .int k), (2, .int ii), (3, .int v)] := hl
      replace hP : va_P g.1 vwCl [(h0, .inr (12, mO q i L)), ((q 1), .inl (g.2 0, 4, .inl a1)), ((q 2), .inl (g.2 0, 4, .inl a2)), ((q 3), .inl (g.2 0, 80, .inl a3))] H := hP
      replace hD : va_D A [(h0, .inr (12, mO q i L)), ((q 1), .inl (g.2 0, 4, .inl a1)), ((q 2), .inl (g.2 0, 4, .inl a2)), ((q 3), .inl (g.2 0, 80, .inl a3))] := hD
      refine va_iast hx hb hK hP hD hS 3 0 rfl rfl (cell_in hSZ (noSheet_in c1) c4) dX12_put_73 (fun H locs hP hD hS => ?_)
      replace hP : va_P g.1 vwCl [(h0, .inr (12, mO q i L)), ((q 1), .inl (g.2 0, 4, .inl a1)), ((q 2), .inl (g.2 0, 4, .inl a2)), ((q 3), .inl (g.2 0, 80, .inl (upd a3 (((20 * k) + ii).toNatClampNeg) j7)))] H := hP
      replace hD : va_D A [(h0, .inr (12, mO q i L)), ((q 1), .inl (g.2 0, 4, .inl a1)), ((q 2), .inl (g.2 0, 4, .inl a2)), ((q 3), .inl (g.2 0, 80, .inl (upd a3 (((20 * k) + ii).toNatClampNeg) j7)))] := hD
      refine lv_aload_n hx hb dX12_put_74 rfl (lv_at hl 0 rfl) ?_
      refine lv_iconst (v := 1) hx hb dX12_put_75 (by decide) ?_
      refine kI (rnV (As := [.int 1]) (rest := []) (Cn := RX12) C (g_refused l g h0 q i L 1) 1 gX12_put_X12_refused rfl (by decide +kernel) ⟨(Nat.le_of_ble_eq_true rfl), (Nat.le_of_ble_eq_true rfl)⟩ hP (k := 0) (ci := 12) rfl rfl rfl rfl hl.1 rfl (Nat.le_of_ble_eq_true rfl) dX12_put_76 ⟨(Nat.le_of_ble_eq_true rfl), (Nat.le_of_ble_eq_true rfl)⟩) (spM0 [true, false, false, false] hP hD rfl) hA hS (fun r8 u9 H locs hw hP hD hS => ?_)
      have hre := hw
      replace hP : va_P g.1 vwCl [(h0, .inr (12, mO q (upd i 0 0) L)), ((q 1), .inl (g.2 0, 4, .inl a1)), ((q 2), .inl (g.2 0, 4, .inl a2)), ((q 3), .inl (g.2 0, 80, .inl (upd a3 (((20 * k) + ii).toNatClampNeg) j7)))] H := hP
      replace hD : va_D A [(h0, .inr (12, mO q (upd i 0 0) L)), ((q 1), .inl (g.2 0, 4, .inl a1)), ((q 2), .inl (g.2 0, 4, .inl a2)), ((q 3), .inl (g.2 0, 80, .inl (upd a3 (((20 * k) + ii).toNatClampNeg) j7)))] := hD
      refine nx_i (v := 1) hre ?_
      exact retI C hS (0, (upd a3 (((20 * k) + ii).toNatClampNeg) j7)) trivial hP hD (Nat.le_of_ble_eq_true rfl) (Nat.le_of_ble_eq_true rfl) dX12_put_79
    refine lv_aload_n hx hb dX12_put_22 rfl (lv_at hl 0 rfl) ?_
    refine lv_aload_n hx hb dX12_put_23 rfl (lv_at hl 0 rfl) ?_
    refine lv_iload_n hx hb dX12_put_24 rfl (lv_at hl 1 rfl) ?_
    refine lv_iload_n hx hb dX12_put_25 rfl (lv_at hl 2 rfl) ?_
    refine kI (rnV (As := [.int k, .int ii]) (rest := [.ref h0]) (Cn := RX12) C (g_noCell l g h0 q i L a1 k ii (noSheet_in c1)) 2 gX12_put_X12_noCell rfl (by decide +kernel) ⟨(Nat.le_of_ble_eq_true rfl), (Nat.le_of_ble_eq_true rfl)⟩ hP (k := 0) (ci := 12) rfl rfl rfl rfl hl.1 rfl (Nat.le_of_ble_eq_true rfl) dX12_put_26 ⟨(Nat.le_of_ble_eq_true rfl), (Nat.le_of_ble_eq_true rfl)⟩) (spM0 [true, true, false, false] hP hD rfl) hA hS (fun r10 u11 H locs hw hP hD hS => ?_)
    have hre := hw
    replace hP : va_P g.1 vwCl [(h0, .inr (12, mO q i L)), ((q 1), .inl (g.2 0, 4, .inl a1)), ((q 2), .inl (g.2 0, 4, .inl a2)), ((q 3), .inl (g.2 0, 80, .inl a3))] H := hP
    replace hD : va_D A [(h0, .inr (12, mO q i L)), ((q 1), .inl (g.2 0, 4, .inl a1)), ((q 2), .inl (g.2 0, 4, .inl a2)), ((q 3), .inl (g.2 0, 80, .inl a3))] := hD
    refine nx_i (v := (r_g_noCell a1 k ii)) hre ?_
    refine kI (rnV (As := [.int (r_g_noCell a1 k ii)]) (rest := []) (Cn := RX12) C (g_failed l g h0 q i L (r_g_noCell a1 k ii)) 1 gX12_put_X12_failed rfl (by decide +kernel) ⟨(Nat.le_of_ble_eq_true rfl), (Nat.le_of_ble_eq_true rfl)⟩ hP (k := 0) (ci := 12) rfl rfl rfl rfl hl.1 rfl (Nat.le_of_ble_eq_true rfl) dX12_put_29 ⟨(Nat.le_of_ble_eq_true rfl), (Nat.le_of_ble_eq_true rfl)⟩) (spM0 [true, false, false, false] hP hD rfl) hA hS (fun r12 u13 H locs hw hP hD hS => ?_)
    have hre := hw
    replace hP : va_P g.1 vwCl [(h0, .inr (12, mO q (upd i 0 (r_g_noCell a1 k ii)) L)), ((q 1), .inl (g.2 0, 4, .inl a1)), ((q 2), .inl (g.2 0, 4, .inl a2)), ((q 3), .inl (g.2 0, 80, .inl a3))] H := hP
    replace hD : va_D A [(h0, .inr (12, mO q (upd i 0 (r_g_noCell a1 k ii)) L)), ((q 1), .inl (g.2 0, 4, .inl a1)), ((q 2), .inl (g.2 0, 4, .inl a2)), ((q 3), .inl (g.2 0, 80, .inl a3))] := hD
    refine nx_i (v := ((-10) - (r_g_noCell a1 k ii))) hre ?_
    exact retI C hS ((r_g_noCell a1 k ii), a3) trivial hP hD (Nat.le_of_ble_eq_true rfl) (Nat.le_of_ble_eq_true rfl) dX12_put_32
  refine lv_aload_n hx hb dX12_put_7 rfl (lv_at hl 0 rfl) ?_
  refine lv_iconst (v := -1) hx hb dX12_put_8 (by decide) ?_
  refine kI (rnV (As := [.int (-1)]) (rest := []) (Cn := RX12) C (g_refused l g h0 q i L (-1)) 1 gX12_put_X12_refused rfl (by decide +kernel) ⟨(Nat.le_of_ble_eq_true rfl), (Nat.le_of_ble_eq_true rfl)⟩ hP (k := 0) (ci := 12) rfl rfl rfl rfl hl.1 rfl (Nat.le_of_ble_eq_true rfl) dX12_put_9 ⟨(Nat.le_of_ble_eq_true rfl), (Nat.le_of_ble_eq_true rfl)⟩) (spM0 [true, false, false, false] hP hD rfl) hA hS (fun r14 u15 H locs hw hP hD hS => ?_)
  have hre := hw
  replace hP : va_P g.1 vwCl [(h0, .inr (12, mO q (upd i 0 0) L)), ((q 1), .inl (g.2 0, 4, .inl a1)), ((q 2), .inl (g.2 0, 4, .inl a2)), ((q 3), .inl (g.2 0, 80, .inl a3))] H := hP
  replace hD : va_D A [(h0, .inr (12, mO q (upd i 0 0) L)), ((q 1), .inl (g.2 0, 4, .inl a1)), ((q 2), .inl (g.2 0, 4, .inl a2)), ((q 3), .inl (g.2 0, 80, .inl a3))] := hD
  refine nx_i (v := (-1)) hre ?_
  exact retI C hS (0, a3) trivial hP hD (Nat.le_of_ble_eq_true rfl) (Nat.le_of_ble_eq_true rfl) dX12_put_12
theorem hw_X12_cell_X12 : ∀ w ∈ wsX120, w ∈ wsX12_cell := fun w h => List.mem_cons_of_mem _ (List.mem_append_right _ h)
set_option maxRecDepth 100000 in
set_option maxHeartbeats 4000000 in
theorem w_cell (l : Launch) (g : Gt) (h0 : Nat) (q : Nat → Nat) (i : Nat → Int32) (L : Nat → Int64) (a1 : Nat → Int32) (a2 : Nat → Int32) (a3 : Nat → Int32) (k : Int32) (ii : Int32) (lane : Int32) (hSZ : SZ a1) : Ctr l g yX12_cell wsX12_cell ({ frames := 2, cells := 0, slots := 0, locals := 47 } : Room) [.ref h0, .int k, .int ii, .int lane] [(h0, .inr (12, mO q i L)), ((q 1), .inl (g.2 0, 4, .inl a1)), ((q 2), .inl (g.2 0, 4, .inl a2)), ((q 3), .inl (g.2 0, 80, .inl a3))] (fun A => QL g A (fun r (u : Int32) => True) (fun (u : Int32) => [(h0, .inr (12, mO q (upd i 0 u) L)), ((q 1), .inl (g.2 0, 4, .inl a1)), ((q 2), .inl (g.2 0, 4, .inl a2)), ((q 3), .inl (g.2 0, 80, .inl a3))])) := by
  refine Ctr.of (cc := cX12_cell) (maxL := 4) (ret := (some .long)) (by decide) rfl (Nat.le_of_ble_eq_true rfl) ?_
  intro p e s m below meth c A ls H C hP hD hA hS hl
  obtain ⟨hx, hb, hr, hts, hown, hlocks, hml, hin, hKN⟩ := id C
  have hK := hKN.1
  have hN := hKN.2
  have F : CallFix p m c cX12_cell 4 s _ wsX12_cell yX12_cell.cls := ⟨hx, hb, hml, hown, hts⟩
  have hl : lv_has ls 4 [(0, .ref h0), (1, .int k), (2, .int ii), (3, .int lane)] := hl
  refine lv_aload_n hx hb dX12_cell_0 rfl (lv_at hl 0 rfl) ?_
  refine lv_iconst (v := 0) hx hb dX12_cell_1 (by decide) ?_
  refine va_put (D := g.1) (ci := 12) (v := .int 0) (ty := .int) (C := RX12) (T := TX12) (N := 66) hx hb hts hw_X12_cell_X12 tyX12 tyX12_ok nmX12 hown hK hP hD hS 0 rfl rfl 0 (by decide) (hts (.fieldLink RX12 141 "OilPushModel" "fault" "I") (List.mem_of_getElem? (i := 1) rfl)) (fun _ h => h) rfl (by decide +kernel) rfl rfl (Nat.le_of_ble_eq_true rfl) dX12_cell_2 (fun H locs hP hD hS => ?_)
  replace hP : va_P g.1 vwCl [(h0, .inr (12, mO q (upd i 0 0) L)), ((q 1), .inl (g.2 0, 4, .inl a1)), ((q 2), .inl (g.2 0, 4, .inl a2)), ((q 3), .inl (g.2 0, 80, .inl a3))] H := hP
  replace hD : va_D A [(h0, .inr (12, mO q (upd i 0 0) L)), ((q 1), .inl (g.2 0, 4, .inl a1)), ((q 2), .inl (g.2 0, 4, .inl a2)), ((q 3), .inl (g.2 0, 80, .inl a3))] := hD
  refine lv_iload_n hx hb dX12_cell_5 rfl (lv_at hl 1 rfl) ?_
  refine pureIS (As := [.int k]) (rest := []) F (c_noSheet l k) 1 gX12_cell_X12_noSheet rfl (by decide +kernel) rfl rfl ⟨(Nat.le_of_ble_eq_true rfl), (Nat.le_of_ble_eq_true rfl)⟩ (Nat.le_of_ble_eq_true rfl) (Nat.le_of_ble_eq_true rfl) rfl hl.1 rfl (Nat.le_of_ble_eq_true rfl) dX12_cell_6 ?_
  refine lv_if_ne (tgt := 24) hx hb dX12_cell_9 (by decide) (fun c1 => ?_) (fun c1 => ?_)
  · refine pureLS (As := []) (rest := []) F (c_lost l) 0 gX12_cell_X12_lost rfl (by decide +kernel) rfl rfl ⟨(Nat.le_of_ble_eq_true rfl), (Nat.le_of_ble_eq_true rfl)⟩ (Nat.le_of_ble_eq_true rfl) (Nat.le_of_ble_eq_true rfl) rfl hl.1 rfl (Nat.le_of_ble_eq_true rfl) dX12_cell_24 ?_
    exact retL C hS 0 trivial hP hD (Nat.le_of_ble_eq_true rfl) (Nat.le_of_ble_eq_true rfl) dX12_cell_27
  refine lv_iload_n hx hb dX12_cell_12 rfl (lv_at hl 3 rfl) ?_
  refine lv_i2l hx hb dX12_cell_13 rfl ?_
  refine lv_lconst (v := 0) hx hb dX12_cell_14 (by decide) ?_
  refine lv_ldc2 (v := 2) hx hb hown (hts (.constantLong RX12 162 (2)) (List.mem_of_getElem? (i := 2) rfl)) dX12_cell_15 ?_
  refine pureIS (As := [.long (Int32.toInt64 lane), .long 0, .long 2]) (rest := []) F (c_in l (Int32.toInt64 lane) 0 2) 3 gX12_cell_X12_in rfl (by decide +kernel) rfl rfl ⟨(Nat.le_of_ble_eq_true rfl), (Nat.le_of_ble_eq_true rfl)⟩ (Nat.le_of_ble_eq_true rfl) (Nat.le_of_ble_eq_true rfl) rfl hl.1 rfl (Nat.le_of_ble_eq_true rfl) dX12_cell_18 ?_
  refine lv_if_ne (tgt := 28) hx hb dX12_cell_21 (by decide) (fun c2 => ?_) (fun c2 => ?_)
  · refine lv_aload_n hx hb dX12_cell_28 rfl (lv_at hl 0 rfl) ?_
    refine va_get (D := g.1) (ci := 12) (v := .ref (q 1)) (C := RX12) (T := TX12) (N := 66) hx hb hts hw_X12_cell_X12 hown hK hP 0 rfl rfl 1 (by decide) (hts (.fieldLink RX12 7 "OilPushModel" "sheetSize" "[I") (List.mem_of_getElem? (i := 3) rfl)) (fun _ h => h) rfl dX12_cell_29 ?_
    refine lv_iload_n hx hb dX12_cell_32 rfl (lv_at hl 1 rfl) ?_
    refine va_iald hx hb hK hP 1 0 rfl rfl (noSheet_in c1) dX12_cell_33 ?_
    refine lv_if_lt (tgt := 53) hx hb dX12_cell_34 (by decide) (fun c3 => ?_) (fun c3 => ?_)
    · refine lv_aload_n hx hb dX12_cell_53 rfl (lv_at hl 0 rfl) ?_
      refine lv_iload_n hx hb dX12_cell_54 rfl (lv_at hl 1 rfl) ?_
      refine lv_iload_n hx hb dX12_cell_55 rfl (lv_at hl 2 rfl) ?_
      refine kI (rnV (As := [.int k, .int ii]) (rest := []) (Cn := RX12) C (g_noCell l g h0 q (upd i 0 0) L a1 k ii (noSheet_in c1)) 2 gX12_cell_X12_noCell rfl (by decide +kernel) ⟨(Nat.le_of_ble_eq_true rfl), (Nat.le_of_ble_eq_true rfl)⟩ hP (k := 0) (ci := 12) rfl rfl rfl rfl hl.1 rfl (Nat.le_of_ble_eq_true rfl) dX12_cell_56 ⟨(Nat.le_of_ble_eq_true rfl), (Nat.le_of_ble_eq_true rfl)⟩) (spM0 [true, true, false, false] hP hD rfl) hA hS (fun r4 u5 H locs hw hP hD hS => ?_)
      have hre := hw
      replace hP : va_P g.1 vwCl [(h0, .inr (12, mO q (upd i 0 0) L)), ((q 1), .inl (g.2 0, 4, .inl a1)), ((q 2), .inl (g.2 0, 4, .inl a2)), ((q 3), .inl (g.2 0, 80, .inl a3))] H := hP
      replace hD : va_D A [(h0, .inr (12, mO q (upd i 0 0) L)), ((q 1), .inl (g.2 0, 4, .inl a1)), ((q 2), .inl (g.2 0, 4, .inl a2)), ((q 3), .inl (g.2 0, 80, .inl a3))] := hD
      refine nx_i (v := (r_g_noCell a1 k ii)) hre ?_
      refine lv_if_le (tgt := 75) hx hb dX12_cell_59 (by decide) (fun c6 => ?_) (fun c6 => ?_)
      · refine lv_aload_n hx hb dX12_cell_75 rfl (lv_at hl 0 rfl) ?_
        refine va_get (D := g.1) (ci := 12) (v := .ref (q 3)) (C := RX12) (T := TX12) (N := 66) hx hb hts hw_X12_cell_X12 hown hK hP 0 rfl rfl 3 (by decide) (hts (.fieldLink RX12 16 "OilPushModel" "sheet" "[I") (List.mem_of_getElem? (i := 5) rfl)) (fun _ h => h) rfl dX12_cell_76 ?_
        refine lv_bipush (v := 20) hx hb dX12_cell_79 (by decide) ?_
        refine lv_iload_n hx hb dX12_cell_81 rfl (lv_at hl 1 rfl) ?_
        refine lv_imul hx hb dX12_cell_82 ?_
        refine lv_iload_n hx hb dX12_cell_83 rfl (lv_at hl 2 rfl) ?_
        refine lv_iadd hx hb dX12_cell_84 ?_
        refine va_iald hx hb hK hP 3 0 rfl rfl (cell_in hSZ (noSheet_in c1) c6) dX12_cell_85 ?_
        refine lv_i2l hx hb dX12_cell_86 rfl ?_
        exact retL C hS 0 trivial hP hD (Nat.le_of_ble_eq_true rfl) (Nat.le_of_ble_eq_true rfl) dX12_cell_87
      refine lv_aload_n hx hb dX12_cell_62 rfl (lv_at hl 0 rfl) ?_
      refine lv_aload_n hx hb dX12_cell_63 rfl (lv_at hl 0 rfl) ?_
      refine lv_iload_n hx hb dX12_cell_64 rfl (lv_at hl 1 rfl) ?_
      refine lv_iload_n hx hb dX12_cell_65 rfl (lv_at hl 2 rfl) ?_
      refine kI (rnV (As := [.int k, .int ii]) (rest := [.ref h0]) (Cn := RX12) C (g_noCell l g h0 q (upd i 0 0) L a1 k ii (noSheet_in c1)) 2 gX12_cell_X12_noCell rfl (by decide +kernel) ⟨(Nat.le_of_ble_eq_true rfl), (Nat.le_of_ble_eq_true rfl)⟩ hP (k := 0) (ci := 12) rfl rfl rfl rfl hl.1 rfl (Nat.le_of_ble_eq_true rfl) dX12_cell_66 ⟨(Nat.le_of_ble_eq_true rfl), (Nat.le_of_ble_eq_true rfl)⟩) (spM0 [true, true, false, false] hP hD rfl) hA hS (fun r7 u8 H locs hw hP hD hS => ?_)
      have hre := hw
      replace hP : va_P g.1 vwCl [(h0, .inr (12, mO q (upd i 0 0) L)), ((q 1), .inl (g.2 0, 4, .inl a1)), ((q 2), .inl (g.2 0, 4, .inl a2)), ((q 3), .inl (g.2 0, 80, .inl a3))] H := hP
      replace hD : va_D A [(h0, .inr (12, mO q (upd i 0 0) L)), ((q 1), .inl (g.2 0, 4, .inl a1)), ((q 2), .inl (g.2 0, 4, .inl a2)), ((q 3), .inl (g.2 0, 80, .inl a3))] := hD
      refine nx_i (v := (r_g_noCell a1 k ii)) hre ?_
      refine kL (rnV (As := [.int (r_g_noCell a1 k ii)]) (rest := []) (Cn := RX12) C (g_failedLong l g h0 q (upd i 0 0) L (r_g_noCell a1 k ii)) 1 gX12_cell_X12_failedLong rfl (by decide +kernel) ⟨(Nat.le_of_ble_eq_true rfl), (Nat.le_of_ble_eq_true rfl)⟩ hP (k := 0) (ci := 12) rfl rfl rfl rfl hl.1 rfl (Nat.le_of_ble_eq_true rfl) dX12_cell_69 ⟨(Nat.le_of_ble_eq_true rfl), (Nat.le_of_ble_eq_true rfl)⟩) (spM0 [true, false, false, false] hP hD rfl) hA hS (fun r9 u10 H locs hw hP hD hS => ?_)
      have hre := hw
      replace hP : va_P g.1 vwCl [(h0, .inr (12, mO q (upd i 0 (r_g_noCell a1 k ii)) L)), ((q 1), .inl (g.2 0, 4, .inl a1)), ((q 2), .inl (g.2 0, 4, .inl a2)), ((q 3), .inl (g.2 0, 80, .inl a3))] H := hP
      replace hD : va_D A [(h0, .inr (12, mO q (upd i 0 (r_g_noCell a1 k ii)) L)), ((q 1), .inl (g.2 0, 4, .inl a1)), ((q 2), .inl (g.2 0, 4, .inl a2)), ((q 3), .inl (g.2 0, 80, .inl a3))] := hD
      refine nx_l (v := (-9223372036854775808)) hre ?_
      refine lv_goto (tgt := 87) hx hb dX12_cell_72 (by decide) ?_
      exact retL C hS (r_g_noCell a1 k ii) trivial hP hD (Nat.le_of_ble_eq_true rfl) (Nat.le_of_ble_eq_true rfl) dX12_cell_87
    refine lv_aload_n hx hb dX12_cell_37 rfl (lv_at hl 0 rfl) ?_
    refine va_get (D := g.1) (ci := 12) (v := .ref (q 2)) (C := RX12) (T := TX12) (N := 66) hx hb hts hw_X12_cell_X12 hown hK hP 0 rfl rfl 2 (by decide) (hts (.fieldLink RX12 13 "OilPushModel" "sheetLane" "[I") (List.mem_of_getElem? (i := 4) rfl)) (fun _ h => h) rfl dX12_cell_38 ?_
    refine lv_iload_n hx hb dX12_cell_41 rfl (lv_at hl 1 rfl) ?_
    refine va_iald hx hb hK hP 2 0 rfl rfl (noSheet_in c1) dX12_cell_42 ?_
    refine lv_iload_n hx hb dX12_cell_43 rfl (lv_at hl 3 rfl) ?_
    refine lv_icmp_eq (tgt := 53) hx hb dX12_cell_44 (by decide) (fun c11 => ?_) (fun c11 => ?_)
    · refine lv_aload_n hx hb dX12_cell_53 rfl (lv_at hl 0 rfl) ?_
      refine lv_iload_n hx hb dX12_cell_54 rfl (lv_at hl 1 rfl) ?_
      refine lv_iload_n hx hb dX12_cell_55 rfl (lv_at hl 2 rfl) ?_
      refine kI (rnV (As := [.int k, .int ii]) (rest := []) (Cn := RX12) C (g_noCell l g h0 q (upd i 0 0) L a1 k ii (noSheet_in c1)) 2 gX12_cell_X12_noCell rfl (by decide +kernel) ⟨(Nat.le_of_ble_eq_true rfl), (Nat.le_of_ble_eq_true rfl)⟩ hP (k := 0) (ci := 12) rfl rfl rfl rfl hl.1 rfl (Nat.le_of_ble_eq_true rfl) dX12_cell_56 ⟨(Nat.le_of_ble_eq_true rfl), (Nat.le_of_ble_eq_true rfl)⟩) (spM0 [true, true, false, false] hP hD rfl) hA hS (fun r12 u13 H locs hw hP hD hS => ?_)
      have hre := hw
      replace hP : va_P g.1 vwCl [(h0, .inr (12, mO q (upd i 0 0) L)), ((q 1), .inl (g.2 0, 4, .inl a1)), ((q 2), .inl (g.2 0, 4, .inl a2)), ((q 3), .inl (g.2 0, 80, .inl a3))] H := hP
      replace hD : va_D A [(h0, .inr (12, mO q (upd i 0 0) L)), ((q 1), .inl (g.2 0, 4, .inl a1)), ((q 2), .inl (g.2 0, 4, .inl a2)), ((q 3), .inl (g.2 0, 80, .inl a3))] := hD
      refine nx_i (v := (r_g_noCell a1 k ii)) hre ?_
      refine lv_if_le (tgt := 75) hx hb dX12_cell_59 (by decide) (fun c14 => ?_) (fun c14 => ?_)
      · refine lv_aload_n hx hb dX12_cell_75 rfl (lv_at hl 0 rfl) ?_
        refine va_get (D := g.1) (ci := 12) (v := .ref (q 3)) (C := RX12) (T := TX12) (N := 66) hx hb hts hw_X12_cell_X12 hown hK hP 0 rfl rfl 3 (by decide) (hts (.fieldLink RX12 16 "OilPushModel" "sheet" "[I") (List.mem_of_getElem? (i := 5) rfl)) (fun _ h => h) rfl dX12_cell_76 ?_
        refine lv_bipush (v := 20) hx hb dX12_cell_79 (by decide) ?_
        refine lv_iload_n hx hb dX12_cell_81 rfl (lv_at hl 1 rfl) ?_
        refine lv_imul hx hb dX12_cell_82 ?_
        refine lv_iload_n hx hb dX12_cell_83 rfl (lv_at hl 2 rfl) ?_
        refine lv_iadd hx hb dX12_cell_84 ?_
        refine va_iald hx hb hK hP 3 0 rfl rfl (cell_in hSZ (noSheet_in c1) c14) dX12_cell_85 ?_
        refine lv_i2l hx hb dX12_cell_86 rfl ?_
        exact retL C hS 0 trivial hP hD (Nat.le_of_ble_eq_true rfl) (Nat.le_of_ble_eq_true rfl) dX12_cell_87
      refine lv_aload_n hx hb dX12_cell_62 rfl (lv_at hl 0 rfl) ?_
      refine lv_aload_n hx hb dX12_cell_63 rfl (lv_at hl 0 rfl) ?_
      refine lv_iload_n hx hb dX12_cell_64 rfl (lv_at hl 1 rfl) ?_
      refine lv_iload_n hx hb dX12_cell_65 rfl (lv_at hl 2 rfl) ?_
      refine kI (rnV (As := [.int k, .int ii]) (rest := [.ref h0]) (Cn := RX12) C (g_noCell l g h0 q (upd i 0 0) L a1 k ii (noSheet_in c1)) 2 gX12_cell_X12_noCell rfl (by decide +kernel) ⟨(Nat.le_of_ble_eq_true rfl), (Nat.le_of_ble_eq_true rfl)⟩ hP (k := 0) (ci := 12) rfl rfl rfl rfl hl.1 rfl (Nat.le_of_ble_eq_true rfl) dX12_cell_66 ⟨(Nat.le_of_ble_eq_true rfl), (Nat.le_of_ble_eq_true rfl)⟩) (spM0 [true, true, false, false] hP hD rfl) hA hS (fun r15 u16 H locs hw hP hD hS => ?_)
      have hre := hw
      replace hP : va_P g.1 vwCl [(h0, .inr (12, mO q (upd i 0 0) L)), ((q 1), .inl (g.2 0, 4, .inl a1)), ((q 2), .inl (g.2 0, 4, .inl a2)), ((q 3), .inl (g.2 0, 80, .inl a3))] H := hP
      replace hD : va_D A [(h0, .inr (12, mO q (upd i 0 0) L)), ((q 1), .inl (g.2 0, 4, .inl a1)), ((q 2), .inl (g.2 0, 4, .inl a2)), ((q 3), .inl (g.2 0, 80, .inl a3))] := hD
      refine nx_i (v := (r_g_noCell a1 k ii)) hre ?_
      refine kL (rnV (As := [.int (r_g_noCell a1 k ii)]) (rest := []) (Cn := RX12) C (g_failedLong l g h0 q (upd i 0 0) L (r_g_noCell a1 k ii)) 1 gX12_cell_X12_failedLong rfl (by decide +kernel) ⟨(Nat.le_of_ble_eq_true rfl), (Nat.le_of_ble_eq_true rfl)⟩ hP (k := 0) (ci := 12) rfl rfl rfl rfl hl.1 rfl (Nat.le_of_ble_eq_true rfl) dX12_cell_69 ⟨(Nat.le_of_ble_eq_true rfl), (Nat.le_of_ble_eq_true rfl)⟩) (spM0 [true, false, false, false] hP hD rfl) hA hS (fun r17 u18 H locs hw hP hD hS => ?_)
      have hre := hw
      replace hP : va_P g.1 vwCl [(h0, .inr (12, mO q (upd i 0 (r_g_noCell a1 k ii)) L)), ((q 1), .inl (g.2 0, 4, .inl a1)), ((q 2), .inl (g.2 0, 4, .inl a2)), ((q 3), .inl (g.2 0, 80, .inl a3))] H := hP
      replace hD : va_D A [(h0, .inr (12, mO q (upd i 0 (r_g_noCell a1 k ii)) L)), ((q 1), .inl (g.2 0, 4, .inl a1)), ((q 2), .inl (g.2 0, 4, .inl a2)), ((q 3), .inl (g.2 0, 80, .inl a3))] := hD
      refine nx_l (v := (-9223372036854775808)) hre ?_
      refine lv_goto (tgt := 87) hx hb dX12_cell_72 (by decide) ?_
      exact retL C hS (r_g_noCell a1 k ii) trivial hP hD (Nat.le_of_ble_eq_true rfl) (Nat.le_of_ble_eq_true rfl) dX12_cell_87
    refine lv_aload_n hx hb dX12_cell_47 rfl (lv_at hl 0 rfl) ?_
    refine lv_iconst (v := 2) hx hb dX12_cell_48 (by decide) ?_
    refine kL (rnV (As := [.int 2]) (rest := []) (Cn := RX12) C (g_failedLong l g h0 q (upd i 0 0) L 2) 1 gX12_cell_X12_failedLong rfl (by decide +kernel) ⟨(Nat.le_of_ble_eq_true rfl), (Nat.le_of_ble_eq_true rfl)⟩ hP (k := 0) (ci := 12) rfl rfl rfl rfl hl.1 rfl (Nat.le_of_ble_eq_true rfl) dX12_cell_49 ⟨(Nat.le_of_ble_eq_true rfl), (Nat.le_of_ble_eq_true rfl)⟩) (spM0 [true, false, false, false] hP hD rfl) hA hS (fun r19 u20 H locs hw hP hD hS => ?_)
    have hre := hw
    replace hP : va_P g.1 vwCl [(h0, .inr (12, mO q (upd i 0 2) L)), ((q 1), .inl (g.2 0, 4, .inl a1)), ((q 2), .inl (g.2 0, 4, .inl a2)), ((q 3), .inl (g.2 0, 80, .inl a3))] H := hP
    replace hD : va_D A [(h0, .inr (12, mO q (upd i 0 2) L)), ((q 1), .inl (g.2 0, 4, .inl a1)), ((q 2), .inl (g.2 0, 4, .inl a2)), ((q 3), .inl (g.2 0, 80, .inl a3))] := hD
    refine nx_l (v := (-9223372036854775808)) hre ?_
    exact retL C hS 2 trivial hP hD (Nat.le_of_ble_eq_true rfl) (Nat.le_of_ble_eq_true rfl) dX12_cell_52
  refine pureLS (As := []) (rest := []) F (c_lost l) 0 gX12_cell_X12_lost rfl (by decide +kernel) rfl rfl ⟨(Nat.le_of_ble_eq_true rfl), (Nat.le_of_ble_eq_true rfl)⟩ (Nat.le_of_ble_eq_true rfl) (Nat.le_of_ble_eq_true rfl) rfl hl.1 rfl (Nat.le_of_ble_eq_true rfl) dX12_cell_24 ?_
  exact retL C hS 0 trivial hP hD (Nat.le_of_ble_eq_true rfl) (Nat.le_of_ble_eq_true rfl) dX12_cell_27
theorem hw_X12_sheet_X12 : ∀ w ∈ wsX120, w ∈ wsX12_sheet := fun w h => List.mem_cons_of_mem _ (List.mem_append_right _ h)
set_option maxRecDepth 100000 in
set_option maxHeartbeats 4000000 in
theorem w_sheet (l : Launch) (g : Gt) (h0 : Nat) (q : Nat → Nat) (i : Nat → Int32) (L : Nat → Int64) (a1 : Nat → Int32) (a2 : Nat → Int32) (a3 : Nat → Int32) (k : Int32) (lane : Int32) (n : Int32) (hSZ : SZ a1) : Ctr l g yX12_sheet wsX12_sheet ({ frames := 2, cells := 0, slots := 0, locals := 45 } : Room) [.ref h0, .int k, .int lane, .int n] [(h0, .inr (12, mO q i L)), ((q 1), .inl (g.2 0, 4, .inl a1)), ((q 2), .inl (g.2 0, 4, .inl a2)), ((q 3), .inl (g.2 0, 80, .inl a3))] (fun A => QI g A (fun r (u : Int32 × (Nat → Int32) × (Nat → Int32) × (Nat → Int32)) => (SZ u.2.1)) (fun (u : Int32 × (Nat → Int32) × (Nat → Int32) × (Nat → Int32)) => [(h0, .inr (12, mO q (upd i 0 u.1) L)), ((q 1), .inl (g.2 0, 4, .inl u.2.1)), ((q 2), .inl (g.2 0, 4, .inl u.2.2.1)), ((q 3), .inl (g.2 0, 80, .inl u.2.2.2))])) := by
  refine Ctr.of (cc := cX12_sheet) (maxL := 5) (ret := (some .int)) (by decide) rfl (Nat.le_of_ble_eq_true rfl) ?_
  intro p e s m below meth c A ls H C hP hD hA hS hl
  obtain ⟨hx, hb, hr, hts, hown, hlocks, hml, hin, hKN⟩ := id C
  have hK := hKN.1
  have hN := hKN.2
  have F : CallFix p m c cX12_sheet 5 s _ wsX12_sheet yX12_sheet.cls := ⟨hx, hb, hml, hown, hts⟩
  have hl : lv_has ls 5 [(0, .ref h0), (1, .int k), (2, .int lane), (3, .int n)] := hl
  refine lv_iload_n hx hb dX12_sheet_0 rfl (lv_at hl 1 rfl) ?_
  refine pureIS (As := [.int k]) (rest := []) F (c_noSheet l k) 1 gX12_sheet_X12_noSheet rfl (by decide +kernel) rfl rfl ⟨(Nat.le_of_ble_eq_true rfl), (Nat.le_of_ble_eq_true rfl)⟩ (Nat.le_of_ble_eq_true rfl) (Nat.le_of_ble_eq_true rfl) rfl hl.1 rfl (Nat.le_of_ble_eq_true rfl) dX12_sheet_1 ?_
  refine lv_if_eq (tgt := 13) hx hb dX12_sheet_4 (by decide) (fun c1 => ?_) (fun c1 => ?_)
  · refine lv_iload_n hx hb dX12_sheet_13 rfl (lv_at hl 2 rfl) ?_
    refine lv_i2l hx hb dX12_sheet_14 rfl ?_
    refine lv_lconst (v := 0) hx hb dX12_sheet_15 (by decide) ?_
    refine lv_ldc2 (v := 2) hx hb hown (hts (.constantLong RX12 162 (2)) (List.mem_of_getElem? (i := 1) rfl)) dX12_sheet_16 ?_
    refine pureIS (As := [.long (Int32.toInt64 lane), .long 0, .long 2]) (rest := []) F (c_in l (Int32.toInt64 lane) 0 2) 3 gX12_sheet_X12_in rfl (by decide +kernel) rfl rfl ⟨(Nat.le_of_ble_eq_true rfl), (Nat.le_of_ble_eq_true rfl)⟩ (Nat.le_of_ble_eq_true rfl) (Nat.le_of_ble_eq_true rfl) rfl hl.1 rfl (Nat.le_of_ble_eq_true rfl) dX12_sheet_19 ?_
    refine lv_if_eq (tgt := 31) hx hb dX12_sheet_22 (by decide) (fun c2 => ?_) (fun c2 => ?_)
    · refine lv_aload_n hx hb dX12_sheet_31 rfl (lv_at hl 0 rfl) ?_
      refine lv_bipush (v := -2) hx hb dX12_sheet_32 (by decide) ?_
      refine kI (rnV (As := [.int (-2)]) (rest := []) (Cn := RX12) C (g_refused l g h0 q i L (-2)) 1 gX12_sheet_X12_refused rfl (by decide +kernel) ⟨(Nat.le_of_ble_eq_true rfl), (Nat.le_of_ble_eq_true rfl)⟩ hP (k := 0) (ci := 12) rfl rfl rfl rfl hl.1 rfl (Nat.le_of_ble_eq_true rfl) dX12_sheet_34 ⟨(Nat.le_of_ble_eq_true rfl), (Nat.le_of_ble_eq_true rfl)⟩) (spM0 [true, false, false, false] hP hD rfl) hA hS (fun r3 u4 H locs hw hP hD hS => ?_)
      have hre := hw
      replace hP : va_P g.1 vwCl [(h0, .inr (12, mO q (upd i 0 0) L)), ((q 1), .inl (g.2 0, 4, .inl a1)), ((q 2), .inl (g.2 0, 4, .inl a2)), ((q 3), .inl (g.2 0, 80, .inl a3))] H := hP
      replace hD : va_D A [(h0, .inr (12, mO q (upd i 0 0) L)), ((q 1), .inl (g.2 0, 4, .inl a1)), ((q 2), .inl (g.2 0, 4, .inl a2)), ((q 3), .inl (g.2 0, 80, .inl a3))] := hD
      refine nx_i (v := (-2)) hre ?_
      exact retI C hS (0, a1, a2, a3) hSZ hP hD (Nat.le_of_ble_eq_true rfl) (Nat.le_of_ble_eq_true rfl) dX12_sheet_37
    refine lv_iload_n hx hb dX12_sheet_25 rfl (lv_at hl 3 rfl) ?_
    refine lv_bipush (v := 20) hx hb dX12_sheet_26 (by decide) ?_
    refine lv_icmp_le (tgt := 38) hx hb dX12_sheet_28 (by decide) (fun c5 => ?_) (fun c5 => ?_)
    · refine lv_iload_n hx hb dX12_sheet_38 rfl (lv_at hl 3 rfl) ?_
      refine lv_if_ge (tgt := 48) hx hb dX12_sheet_39 (by decide) (fun c6 => ?_) (fun c6 => ?_)
      · refine lv_aload_n hx hb dX12_sheet_48 rfl (lv_at hl 0 rfl) ?_
        refine va_get (D := g.1) (ci := 12) (v := .ref (q 1)) (C := RX12) (T := TX12) (N := 66) hx hb hts hw_X12_sheet_X12 hown hK hP 0 rfl rfl 1 (by decide) (hts (.fieldLink RX12 7 "OilPushModel" "sheetSize" "[I") (List.mem_of_getElem? (i := 2) rfl)) (fun _ h => h) rfl dX12_sheet_49 ?_
        refine lv_iload_n hx hb dX12_sheet_52 rfl (lv_at hl 1 rfl) ?_
        refine lv_iload_n hx hb dX12_sheet_53 rfl (lv_at hl 3 rfl) ?_
        refine va_iast hx hb hK hP hD hS 1 0 rfl rfl (noSheet_in c1) dX12_sheet_54 (fun H locs hP hD hS => ?_)
        replace hP : va_P g.1 vwCl [(h0, .inr (12, mO q i L)), ((q 1), .inl (g.2 0, 4, .inl (upd a1 (k.toNatClampNeg) n))), ((q 2), .inl (g.2 0, 4, .inl a2)), ((q 3), .inl (g.2 0, 80, .inl a3))] H := hP
        replace hD : va_D A [(h0, .inr (12, mO q i L)), ((q 1), .inl (g.2 0, 4, .inl (upd a1 (k.toNatClampNeg) n))), ((q 2), .inl (g.2 0, 4, .inl a2)), ((q 3), .inl (g.2 0, 80, .inl a3))] := hD
        refine lv_aload_n hx hb dX12_sheet_55 rfl (lv_at hl 0 rfl) ?_
        refine va_get (D := g.1) (ci := 12) (v := .ref (q 2)) (C := RX12) (T := TX12) (N := 66) hx hb hts hw_X12_sheet_X12 hown hK hP 0 rfl rfl 2 (by decide) (hts (.fieldLink RX12 13 "OilPushModel" "sheetLane" "[I") (List.mem_of_getElem? (i := 3) rfl)) (fun _ h => h) rfl dX12_sheet_56 ?_
        refine lv_iload_n hx hb dX12_sheet_59 rfl (lv_at hl 1 rfl) ?_
        refine lv_iload_n hx hb dX12_sheet_60 rfl (lv_at hl 2 rfl) ?_
        refine va_iast hx hb hK hP hD hS 2 0 rfl rfl (noSheet_in c1) dX12_sheet_61 (fun H locs hP hD hS => ?_)
        replace hP : va_P g.1 vwCl [(h0, .inr (12, mO q i L)), ((q 1), .inl (g.2 0, 4, .inl (upd a1 (k.toNatClampNeg) n))), ((q 2), .inl (g.2 0, 4, .inl (upd a2 (k.toNatClampNeg) lane))), ((q 3), .inl (g.2 0, 80, .inl a3))] H := hP
        replace hD : va_D A [(h0, .inr (12, mO q i L)), ((q 1), .inl (g.2 0, 4, .inl (upd a1 (k.toNatClampNeg) n))), ((q 2), .inl (g.2 0, 4, .inl (upd a2 (k.toNatClampNeg) lane))), ((q 3), .inl (g.2 0, 80, .inl a3))] := hD
        refine lv_iconst (v := 0) hx hb dX12_sheet_62 (by decide) ?_
        refine lv_istore (lv' := [(4, .int 0), (0, .ref h0), (1, .int k), (2, .int lane), (3, .int n)]) hx hb dX12_sheet_63 hl (by decide) rfl (fun ls hl => ?_)
        refine W.loop (α := (Nat → Int32) × Int32) (P := fun z ls H locs => (0 ≤ (z.2).toInt) ∧ lv_has ls 5 [(4, .int z.2), (0, .ref h0), (1, .int k), (2, .int lane), (3, .int n)] ∧ va_P g.1 vwCl [(h0, .inr (12, mO q i L)), ((q 1), .inl (g.2 0, 4, .inl (upd a1 (k.toNatClampNeg) n))), ((q 2), .inl (g.2 0, 4, .inl (upd a2 (k.toNatClampNeg) lane))), ((q 3), .inl (g.2 0, 80, .inl z.1))] H ∧ va_D A [(h0, .inr (12, mO q i L)), ((q 1), .inl (g.2 0, 4, .inl (upd a1 (k.toNatClampNeg) n))), ((q 2), .inl (g.2 0, 4, .inl (upd a2 (k.toNatClampNeg) lane))), ((q 3), .inl (g.2 0, 80, .inl z.1))] ∧ va_S A s.heap H locs) (μ := fun z => (n.toInt - (z.2).toInt).toNat) (a3, 0) ⟨z_ge, hl, hP, hD, hS⟩ (fun z ls H locs hh ih65 => ?_)
        obtain ⟨aq3_65, l4_65⟩ := z
        try dsimp only at hh ih65
        obtain ⟨hiv65, hl, hP, hD, hS⟩ := hh
        have hl : lv_has ls 5 [(4, .int l4_65), (0, .ref h0), (1, .int k), (2, .int lane), (3, .int n)] := hl
        replace hP : va_P g.1 vwCl [(h0, .inr (12, mO q i L)), ((q 1), .inl (g.2 0, 4, .inl (upd a1 (k.toNatClampNeg) n))), ((q 2), .inl (g.2 0, 4, .inl (upd a2 (k.toNatClampNeg) lane))), ((q 3), .inl (g.2 0, 80, .inl aq3_65))] H := hP
        replace hD : va_D A [(h0, .inr (12, mO q i L)), ((q 1), .inl (g.2 0, 4, .inl (upd a1 (k.toNatClampNeg) n))), ((q 2), .inl (g.2 0, 4, .inl (upd a2 (k.toNatClampNeg) lane))), ((q 3), .inl (g.2 0, 80, .inl aq3_65))] := hD
        refine lv_iload hx hb dX12_sheet_65 (lv_at hl 0 rfl) ?_
        refine lv_iload_n hx hb dX12_sheet_67 rfl (lv_at hl 4 rfl) ?_
        refine lv_icmp_ge (tgt := 90) hx hb dX12_sheet_68 (by decide) (fun c7 => ?_) (fun c7 => ?_)
        · refine lv_aload_n hx hb dX12_sheet_90 rfl (lv_at hl 1 rfl) ?_
          refine lv_iconst (v := 1) hx hb dX12_sheet_91 (by decide) ?_
          refine kI (rnV (As := [.int 1]) (rest := []) (Cn := RX12) C (g_refused l g h0 q i L 1) 1 gX12_sheet_X12_refused rfl (by decide +kernel) ⟨(Nat.le_of_ble_eq_true rfl), (Nat.le_of_ble_eq_true rfl)⟩ hP (k := 0) (ci := 12) rfl rfl rfl rfl hl.1 rfl (Nat.le_of_ble_eq_true rfl) dX12_sheet_92 ⟨(Nat.le_of_ble_eq_true rfl), (Nat.le_of_ble_eq_true rfl)⟩) (spM0 [true, false, false, false] hP hD rfl) hA hS (fun r8 u9 H locs hw hP hD hS => ?_)
          have hre := hw
          replace hP : va_P g.1 vwCl [(h0, .inr (12, mO q (upd i 0 0) L)), ((q 1), .inl (g.2 0, 4, .inl (upd a1 (k.toNatClampNeg) n))), ((q 2), .inl (g.2 0, 4, .inl (upd a2 (k.toNatClampNeg) lane))), ((q 3), .inl (g.2 0, 80, .inl aq3_65))] H := hP
          replace hD : va_D A [(h0, .inr (12, mO q (upd i 0 0) L)), ((q 1), .inl (g.2 0, 4, .inl (upd a1 (k.toNatClampNeg) n))), ((q 2), .inl (g.2 0, 4, .inl (upd a2 (k.toNatClampNeg) lane))), ((q 3), .inl (g.2 0, 80, .inl aq3_65))] := hD
          refine nx_i (v := 1) hre ?_
          exact retI C hS (0, (upd a1 (k.toNatClampNeg) n), (upd a2 (k.toNatClampNeg) lane), aq3_65) (SZ_upd hSZ ⟨(by have h9 := ge0 c6; omega), le20 c5⟩) hP hD (Nat.le_of_ble_eq_true rfl) (Nat.le_of_ble_eq_true rfl) dX12_sheet_95
        refine lv_aload_n hx hb dX12_sheet_71 rfl (lv_at hl 1 rfl) ?_
        refine va_get (D := g.1) (ci := 12) (v := .ref (q 3)) (C := RX12) (T := TX12) (N := 66) hx hb hts hw_X12_sheet_X12 hown hK hP 0 rfl rfl 3 (by decide) (hts (.fieldLink RX12 16 "OilPushModel" "sheet" "[I") (List.mem_of_getElem? (i := 4) rfl)) (fun _ h => h) rfl dX12_sheet_72 ?_
        refine lv_bipush (v := 20) hx hb dX12_sheet_75 (by decide) ?_
        refine lv_iload_n hx hb dX12_sheet_77 rfl (lv_at hl 2 rfl) ?_
        refine lv_imul hx hb dX12_sheet_78 ?_
        refine lv_iload hx hb dX12_sheet_79 (lv_at hl 0 rfl) ?_
        refine lv_iadd hx hb dX12_sheet_81 ?_
        refine lv_iconst (v := 0) hx hb dX12_sheet_82 (by decide) ?_
        refine va_iast hx hb hK hP hD hS 3 0 rfl rfl (row_in0 (noSheet_in c1) (le20 c5) hiv65 c7) dX12_sheet_83 (fun H locs hP hD hS => ?_)
        replace hP : va_P g.1 vwCl [(h0, .inr (12, mO q i L)), ((q 1), .inl (g.2 0, 4, .inl (upd a1 (k.toNatClampNeg) n))), ((q 2), .inl (g.2 0, 4, .inl (upd a2 (k.toNatClampNeg) lane))), ((q 3), .inl (g.2 0, 80, .inl (upd aq3_65 (((20 * k) + l4_65).toNatClampNeg) 0)))] H := hP
        replace hD : va_D A [(h0, .inr (12, mO q i L)), ((q 1), .inl (g.2 0, 4, .inl (upd a1 (k.toNatClampNeg) n))), ((q 2), .inl (g.2 0, 4, .inl (upd a2 (k.toNatClampNeg) lane))), ((q 3), .inl (g.2 0, 80, .inl (upd aq3_65 (((20 * k) + l4_65).toNatClampNeg) 0)))] := hD
        refine lv_iinc (v := (l4_65 + 1)) (lv' := [(4, .int (l4_65 + 1)), (0, .ref h0), (1, .int k), (2, .int lane), (3, .int n)]) hx hb dX12_sheet_84 hl (k := 0) rfl rfl (by decide) rfl (fun ls hl => ?_)
        refine lv_goto (tgt := 65) hx hb dX12_sheet_87 (by decide) ?_
        exact ih65 ((upd aq3_65 (((20 * k) + l4_65).toNatClampNeg) 0), (l4_65 + 1)) ls H locs ⟨(by have h9 := inc_toInt c7; have h8 := hiv65; (try dsimp only); omega), lv_sub hl [0, 1, 2, 3, 4] rfl, hP, hD, hS⟩ (inc_mu2 c7)
      refine lv_aload_n hx hb dX12_sheet_42 rfl (lv_at hl 0 rfl) ?_
      refine lv_iconst (v := 4) hx hb dX12_sheet_43 (by decide) ?_
      refine kI (rnV (As := [.int 4]) (rest := []) (Cn := RX12) C (g_failed l g h0 q i L 4) 1 gX12_sheet_X12_failed rfl (by decide +kernel) ⟨(Nat.le_of_ble_eq_true rfl), (Nat.le_of_ble_eq_true rfl)⟩ hP (k := 0) (ci := 12) rfl rfl rfl rfl hl.1 rfl (Nat.le_of_ble_eq_true rfl) dX12_sheet_44 ⟨(Nat.le_of_ble_eq_true rfl), (Nat.le_of_ble_eq_true rfl)⟩) (spM0 [true, false, false, false] hP hD rfl) hA hS (fun r10 u11 H locs hw hP hD hS => ?_)
      have hre := hw
      replace hP : va_P g.1 vwCl [(h0, .inr (12, mO q (upd i 0 4) L)), ((q 1), .inl (g.2 0, 4, .inl a1)), ((q 2), .inl (g.2 0, 4, .inl a2)), ((q 3), .inl (g.2 0, 80, .inl a3))] H := hP
      replace hD : va_D A [(h0, .inr (12, mO q (upd i 0 4) L)), ((q 1), .inl (g.2 0, 4, .inl a1)), ((q 2), .inl (g.2 0, 4, .inl a2)), ((q 3), .inl (g.2 0, 80, .inl a3))] := hD
      refine nx_i (v := ((-10) - 4)) hre ?_
      exact retI C hS (4, a1, a2, a3) hSZ hP hD (Nat.le_of_ble_eq_true rfl) (Nat.le_of_ble_eq_true rfl) dX12_sheet_47
    refine lv_aload_n hx hb dX12_sheet_31 rfl (lv_at hl 0 rfl) ?_
    refine lv_bipush (v := -2) hx hb dX12_sheet_32 (by decide) ?_
    refine kI (rnV (As := [.int (-2)]) (rest := []) (Cn := RX12) C (g_refused l g h0 q i L (-2)) 1 gX12_sheet_X12_refused rfl (by decide +kernel) ⟨(Nat.le_of_ble_eq_true rfl), (Nat.le_of_ble_eq_true rfl)⟩ hP (k := 0) (ci := 12) rfl rfl rfl rfl hl.1 rfl (Nat.le_of_ble_eq_true rfl) dX12_sheet_34 ⟨(Nat.le_of_ble_eq_true rfl), (Nat.le_of_ble_eq_true rfl)⟩) (spM0 [true, false, false, false] hP hD rfl) hA hS (fun r12 u13 H locs hw hP hD hS => ?_)
    have hre := hw
    replace hP : va_P g.1 vwCl [(h0, .inr (12, mO q (upd i 0 0) L)), ((q 1), .inl (g.2 0, 4, .inl a1)), ((q 2), .inl (g.2 0, 4, .inl a2)), ((q 3), .inl (g.2 0, 80, .inl a3))] H := hP
    replace hD : va_D A [(h0, .inr (12, mO q (upd i 0 0) L)), ((q 1), .inl (g.2 0, 4, .inl a1)), ((q 2), .inl (g.2 0, 4, .inl a2)), ((q 3), .inl (g.2 0, 80, .inl a3))] := hD
    refine nx_i (v := (-2)) hre ?_
    exact retI C hS (0, a1, a2, a3) hSZ hP hD (Nat.le_of_ble_eq_true rfl) (Nat.le_of_ble_eq_true rfl) dX12_sheet_37
  refine lv_aload_n hx hb dX12_sheet_7 rfl (lv_at hl 0 rfl) ?_
  refine lv_iconst (v := -1) hx hb dX12_sheet_8 (by decide) ?_
  refine kI (rnV (As := [.int (-1)]) (rest := []) (Cn := RX12) C (g_refused l g h0 q i L (-1)) 1 gX12_sheet_X12_refused rfl (by decide +kernel) ⟨(Nat.le_of_ble_eq_true rfl), (Nat.le_of_ble_eq_true rfl)⟩ hP (k := 0) (ci := 12) rfl rfl rfl rfl hl.1 rfl (Nat.le_of_ble_eq_true rfl) dX12_sheet_9 ⟨(Nat.le_of_ble_eq_true rfl), (Nat.le_of_ble_eq_true rfl)⟩) (spM0 [true, false, false, false] hP hD rfl) hA hS (fun r14 u15 H locs hw hP hD hS => ?_)
  have hre := hw
  replace hP : va_P g.1 vwCl [(h0, .inr (12, mO q (upd i 0 0) L)), ((q 1), .inl (g.2 0, 4, .inl a1)), ((q 2), .inl (g.2 0, 4, .inl a2)), ((q 3), .inl (g.2 0, 80, .inl a3))] H := hP
  replace hD : va_D A [(h0, .inr (12, mO q (upd i 0 0) L)), ((q 1), .inl (g.2 0, 4, .inl a1)), ((q 2), .inl (g.2 0, 4, .inl a2)), ((q 3), .inl (g.2 0, 80, .inl a3))] := hD
  refine nx_i (v := (-1)) hre ?_
  exact retI C hS (0, a1, a2, a3) hSZ hP hD (Nat.le_of_ble_eq_true rfl) (Nat.le_of_ble_eq_true rfl) dX12_sheet_12
theorem hw_X12_copy_X12 : ∀ w ∈ wsX120, w ∈ wsX12_copy := fun w h => List.mem_cons_of_mem _ (List.mem_append_right _ h)
set_option maxRecDepth 100000 in
set_option maxHeartbeats 4000000 in
theorem w_copy (l : Launch) (g : Gt) (h0 : Nat) (q : Nat → Nat) (i : Nat → Int32) (L : Nat → Int64) (a1 : Nat → Int32) (a2 : Nat → Int32) (a3 : Nat → Int32) (a4 : Nat → Int32) (k : Int32) (ii : Int32) (ot : Int32) (jj : Int32) (n : Int32) (hSZ : SZ a1) : Ctr l g yX12_copy wsX12_copy ({ frames := 2, cells := 0, slots := 0, locals := 45 } : Room) [.ref h0, .int k, .int ii, .int ot, .int jj, .int n] [(h0, .inr (12, mO q i L)), ((q 1), .inl (g.2 0, 4, .inl a1)), ((q 2), .inl (g.2 0, 4, .inl a2)), ((q 3), .inl (g.2 0, 80, .inl a3)), ((q 4), .inl (g.2 0, 20, .inl a4))] (fun A => QI g A (fun r (u : Int32 × (Nat → Int32) × (Nat → Int32)) => True) (fun (u : Int32 × (Nat → Int32) × (Nat → Int32)) => [(h0, .inr (12, mO q (upd i 0 u.1) L)), ((q 1), .inl (g.2 0, 4, .inl a1)), ((q 2), .inl (g.2 0, 4, .inl a2)), ((q 3), .inl (g.2 0, 80, .inl u.2.1)), ((q 4), .inl (g.2 0, 20, .inl u.2.2))])) := by
  refine Ctr.of (cc := cX12_copy) (maxL := 7) (ret := (some .int)) (by decide) rfl (Nat.le_of_ble_eq_true rfl) ?_
  intro p e s m below meth c A ls H C hP hD hA hS hl
  obtain ⟨hx, hb, hr, hts, hown, hlocks, hml, hin, hKN⟩ := id C
  have hK := hKN.1
  have hN := hKN.2
  have F : CallFix p m c cX12_copy 7 s _ wsX12_copy yX12_copy.cls := ⟨hx, hb, hml, hown, hts⟩
  have hl : lv_has ls 7 [(0, .ref h0), (1, .int k), (2, .int ii), (3, .int ot), (4, .int jj), (5, .int n)] := hl
  refine lv_iload_n hx hb dX12_copy_0 rfl (lv_at hl 1 rfl) ?_
  refine pureIS (As := [.int k]) (rest := []) F (c_noSheet l k) 1 gX12_copy_X12_noSheet rfl (by decide +kernel) rfl rfl ⟨(Nat.le_of_ble_eq_true rfl), (Nat.le_of_ble_eq_true rfl)⟩ (Nat.le_of_ble_eq_true rfl) (Nat.le_of_ble_eq_true rfl) rfl hl.1 rfl (Nat.le_of_ble_eq_true rfl) dX12_copy_1 ?_
  refine lv_if_ne (tgt := 14) hx hb dX12_copy_4 (by decide) (fun c1 => ?_) (fun c1 => ?_)
  · refine lv_aload_n hx hb dX12_copy_14 rfl (lv_at hl 0 rfl) ?_
    refine lv_iconst (v := -1) hx hb dX12_copy_15 (by decide) ?_
    refine kI (rnV (As := [.int (-1)]) (rest := []) (Cn := RX12) C (g_refused l g h0 q i L (-1)) 1 gX12_copy_X12_refused rfl (by decide +kernel) ⟨(Nat.le_of_ble_eq_true rfl), (Nat.le_of_ble_eq_true rfl)⟩ hP (k := 0) (ci := 12) rfl rfl rfl rfl hl.1 rfl (Nat.le_of_ble_eq_true rfl) dX12_copy_16 ⟨(Nat.le_of_ble_eq_true rfl), (Nat.le_of_ble_eq_true rfl)⟩) (spM0 [true, false, false, false, false] hP hD rfl) hA hS (fun r2 u3 H locs hw hP hD hS => ?_)
    have hre := hw
    replace hP : va_P g.1 vwCl [(h0, .inr (12, mO q (upd i 0 0) L)), ((q 1), .inl (g.2 0, 4, .inl a1)), ((q 2), .inl (g.2 0, 4, .inl a2)), ((q 3), .inl (g.2 0, 80, .inl a3)), ((q 4), .inl (g.2 0, 20, .inl a4))] H := hP
    replace hD : va_D A [(h0, .inr (12, mO q (upd i 0 0) L)), ((q 1), .inl (g.2 0, 4, .inl a1)), ((q 2), .inl (g.2 0, 4, .inl a2)), ((q 3), .inl (g.2 0, 80, .inl a3)), ((q 4), .inl (g.2 0, 20, .inl a4))] := hD
    refine nx_i (v := (-1)) hre ?_
    exact retI C hS (0, a3, a4) trivial hP hD (Nat.le_of_ble_eq_true rfl) (Nat.le_of_ble_eq_true rfl) dX12_copy_19
  refine lv_iload_n hx hb dX12_copy_7 rfl (lv_at hl 3 rfl) ?_
  refine pureIS (As := [.int ot]) (rest := []) F (c_noSheet l ot) 1 gX12_copy_X12_noSheet rfl (by decide +kernel) rfl rfl ⟨(Nat.le_of_ble_eq_true rfl), (Nat.le_of_ble_eq_true rfl)⟩ (Nat.le_of_ble_eq_true rfl) (Nat.le_of_ble_eq_true rfl) rfl hl.1 rfl (Nat.le_of_ble_eq_true rfl) dX12_copy_8 ?_
  refine lv_if_eq (tgt := 20) hx hb dX12_copy_11 (by decide) (fun c4 => ?_) (fun c4 => ?_)
  · refine lv_aload_n hx hb dX12_copy_20 rfl (lv_at hl 0 rfl) ?_
    refine va_get (D := g.1) (ci := 12) (v := .ref (q 1)) (C := RX12) (T := TX12) (N := 66) hx hb hts hw_X12_copy_X12 hown hK hP 0 rfl rfl 1 (by decide) (hts (.fieldLink RX12 7 "OilPushModel" "sheetSize" "[I") (List.mem_of_getElem? (i := 1) rfl)) (fun _ h => h) rfl dX12_copy_21 ?_
    refine lv_iload_n hx hb dX12_copy_24 rfl (lv_at hl 1 rfl) ?_
    refine va_iald hx hb hK hP 1 0 rfl rfl (noSheet_in c1) dX12_copy_25 ?_
    refine lv_if_lt (tgt := 38) hx hb dX12_copy_26 (by decide) (fun c5 => ?_) (fun c5 => ?_)
    · refine lv_aload_n hx hb dX12_copy_38 rfl (lv_at hl 0 rfl) ?_
      refine lv_iconst (v := 1) hx hb dX12_copy_39 (by decide) ?_
      refine kI (rnV (As := [.int 1]) (rest := []) (Cn := RX12) C (g_failed l g h0 q i L 1) 1 gX12_copy_X12_failed rfl (by decide +kernel) ⟨(Nat.le_of_ble_eq_true rfl), (Nat.le_of_ble_eq_true rfl)⟩ hP (k := 0) (ci := 12) rfl rfl rfl rfl hl.1 rfl (Nat.le_of_ble_eq_true rfl) dX12_copy_40 ⟨(Nat.le_of_ble_eq_true rfl), (Nat.le_of_ble_eq_true rfl)⟩) (spM0 [true, false, false, false, false] hP hD rfl) hA hS (fun r6 u7 H locs hw hP hD hS => ?_)
      have hre := hw
      replace hP : va_P g.1 vwCl [(h0, .inr (12, mO q (upd i 0 1) L)), ((q 1), .inl (g.2 0, 4, .inl a1)), ((q 2), .inl (g.2 0, 4, .inl a2)), ((q 3), .inl (g.2 0, 80, .inl a3)), ((q 4), .inl (g.2 0, 20, .inl a4))] H := hP
      replace hD : va_D A [(h0, .inr (12, mO q (upd i 0 1) L)), ((q 1), .inl (g.2 0, 4, .inl a1)), ((q 2), .inl (g.2 0, 4, .inl a2)), ((q 3), .inl (g.2 0, 80, .inl a3)), ((q 4), .inl (g.2 0, 20, .inl a4))] := hD
      refine nx_i (v := ((-10) - 1)) hre ?_
      exact retI C hS (1, a3, a4) trivial hP hD (Nat.le_of_ble_eq_true rfl) (Nat.le_of_ble_eq_true rfl) dX12_copy_43
    refine lv_aload_n hx hb dX12_copy_29 rfl (lv_at hl 0 rfl) ?_
    refine va_get (D := g.1) (ci := 12) (v := .ref (q 1)) (C := RX12) (T := TX12) (N := 66) hx hb hts hw_X12_copy_X12 hown hK hP 0 rfl rfl 1 (by decide) (hts (.fieldLink RX12 7 "OilPushModel" "sheetSize" "[I") (List.mem_of_getElem? (i := 1) rfl)) (fun _ h => h) rfl dX12_copy_30 ?_
    refine lv_iload_n hx hb dX12_copy_33 rfl (lv_at hl 3 rfl) ?_
    refine va_iald hx hb hK hP 1 0 rfl rfl (noSheet_in c4) dX12_copy_34 ?_
    refine lv_if_ge (tgt := 44) hx hb dX12_copy_35 (by decide) (fun c8 => ?_) (fun c8 => ?_)
    · refine lv_aload_n hx hb dX12_copy_44 rfl (lv_at hl 0 rfl) ?_
      refine va_get (D := g.1) (ci := 12) (v := .ref (q 2)) (C := RX12) (T := TX12) (N := 66) hx hb hts hw_X12_copy_X12 hown hK hP 0 rfl rfl 2 (by decide) (hts (.fieldLink RX12 13 "OilPushModel" "sheetLane" "[I") (List.mem_of_getElem? (i := 2) rfl)) (fun _ h => h) rfl dX12_copy_45 ?_
      refine lv_iload_n hx hb dX12_copy_48 rfl (lv_at hl 1 rfl) ?_
      refine va_iald hx hb hK hP 2 0 rfl rfl (noSheet_in c1) dX12_copy_49 ?_
      refine lv_aload_n hx hb dX12_copy_50 rfl (lv_at hl 0 rfl) ?_
      refine va_get (D := g.1) (ci := 12) (v := .ref (q 2)) (C := RX12) (T := TX12) (N := 66) hx hb hts hw_X12_copy_X12 hown hK hP 0 rfl rfl 2 (by decide) (hts (.fieldLink RX12 13 "OilPushModel" "sheetLane" "[I") (List.mem_of_getElem? (i := 2) rfl)) (fun _ h => h) rfl dX12_copy_51 ?_
      refine lv_iload_n hx hb dX12_copy_54 rfl (lv_at hl 3 rfl) ?_
      refine va_iald hx hb hK hP 2 0 rfl rfl (noSheet_in c4) dX12_copy_55 ?_
      refine lv_icmp_eq (tgt := 65) hx hb dX12_copy_56 (by decide) (fun c9 => ?_) (fun c9 => ?_)
      · refine lv_iload_n hx hb dX12_copy_65 rfl (lv_at hl 2 rfl) ?_
        refine lv_iload hx hb dX12_copy_66 (lv_at hl 5 rfl) ?_
        refine lv_aload_n hx hb dX12_copy_68 rfl (lv_at hl 0 rfl) ?_
        refine va_get (D := g.1) (ci := 12) (v := .ref (q 1)) (C := RX12) (T := TX12) (N := 66) hx hb hts hw_X12_copy_X12 hown hK hP 0 rfl rfl 1 (by decide) (hts (.fieldLink RX12 7 "OilPushModel" "sheetSize" "[I") (List.mem_of_getElem? (i := 1) rfl)) (fun _ h => h) rfl dX12_copy_69 ?_
        refine lv_iload_n hx hb dX12_copy_72 rfl (lv_at hl 1 rfl) ?_
        refine va_iald hx hb hK hP 1 0 rfl rfl (noSheet_in c1) dX12_copy_73 ?_
        refine pureIS (As := [.int ii, .int n, .int (a1 (k.toNatClampNeg))]) (rest := []) F (c_isBeyond l ii n (a1 (k.toNatClampNeg))) 3 gX12_copy_X12_isBeyond rfl (by decide +kernel) rfl rfl ⟨(Nat.le_of_ble_eq_true rfl), (Nat.le_of_ble_eq_true rfl)⟩ (Nat.le_of_ble_eq_true rfl) (Nat.le_of_ble_eq_true rfl) rfl hl.1 rfl (Nat.le_of_ble_eq_true rfl) dX12_copy_74 ?_
        refine lv_if_ne (tgt := 96) hx hb dX12_copy_77 (by decide) (fun c10 => ?_) (fun c10 => ?_)
        · refine lv_aload_n hx hb dX12_copy_96 rfl (lv_at hl 0 rfl) ?_
          refine lv_iconst (v := 3) hx hb dX12_copy_97 (by decide) ?_
          refine kI (rnV (As := [.int 3]) (rest := []) (Cn := RX12) C (g_failed l g h0 q i L 3) 1 gX12_copy_X12_failed rfl (by decide +kernel) ⟨(Nat.le_of_ble_eq_true rfl), (Nat.le_of_ble_eq_true rfl)⟩ hP (k := 0) (ci := 12) rfl rfl rfl rfl hl.1 rfl (Nat.le_of_ble_eq_true rfl) dX12_copy_98 ⟨(Nat.le_of_ble_eq_true rfl), (Nat.le_of_ble_eq_true rfl)⟩) (spM0 [true, false, false, false, false] hP hD rfl) hA hS (fun r11 u12 H locs hw hP hD hS => ?_)
          have hre := hw
          replace hP : va_P g.1 vwCl [(h0, .inr (12, mO q (upd i 0 3) L)), ((q 1), .inl (g.2 0, 4, .inl a1)), ((q 2), .inl (g.2 0, 4, .inl a2)), ((q 3), .inl (g.2 0, 80, .inl a3)), ((q 4), .inl (g.2 0, 20, .inl a4))] H := hP
          replace hD : va_D A [(h0, .inr (12, mO q (upd i 0 3) L)), ((q 1), .inl (g.2 0, 4, .inl a1)), ((q 2), .inl (g.2 0, 4, .inl a2)), ((q 3), .inl (g.2 0, 80, .inl a3)), ((q 4), .inl (g.2 0, 20, .inl a4))] := hD
          refine nx_i (v := ((-10) - 3)) hre ?_
          exact retI C hS (3, a3, a4) trivial hP hD (Nat.le_of_ble_eq_true rfl) (Nat.le_of_ble_eq_true rfl) dX12_copy_101
        refine lv_iload hx hb dX12_copy_80 (lv_at hl 4 rfl) ?_
        refine lv_iload hx hb dX12_copy_82 (lv_at hl 5 rfl) ?_
        refine lv_aload_n hx hb dX12_copy_84 rfl (lv_at hl 0 rfl) ?_
        refine va_get (D := g.1) (ci := 12) (v := .ref (q 1)) (C := RX12) (T := TX12) (N := 66) hx hb hts hw_X12_copy_X12 hown hK hP 0 rfl rfl 1 (by decide) (hts (.fieldLink RX12 7 "OilPushModel" "sheetSize" "[I") (List.mem_of_getElem? (i := 1) rfl)) (fun _ h => h) rfl dX12_copy_85 ?_
        refine lv_iload_n hx hb dX12_copy_88 rfl (lv_at hl 3 rfl) ?_
        refine va_iald hx hb hK hP 1 0 rfl rfl (noSheet_in c4) dX12_copy_89 ?_
        refine pureIS (As := [.int jj, .int n, .int (a1 (ot.toNatClampNeg))]) (rest := []) F (c_isBeyond l jj n (a1 (ot.toNatClampNeg))) 3 gX12_copy_X12_isBeyond rfl (by decide +kernel) rfl rfl ⟨(Nat.le_of_ble_eq_true rfl), (Nat.le_of_ble_eq_true rfl)⟩ (Nat.le_of_ble_eq_true rfl) (Nat.le_of_ble_eq_true rfl) rfl hl.1 rfl (Nat.le_of_ble_eq_true rfl) dX12_copy_90 ?_
        refine lv_if_eq (tgt := 102) hx hb dX12_copy_93 (by decide) (fun c13 => ?_) (fun c13 => ?_)
        · refine lv_iconst (v := 0) hx hb dX12_copy_102 (by decide) ?_
          refine lv_istore (lv' := [(6, .int 0), (0, .ref h0), (1, .int k), (2, .int ii), (3, .int ot), (4, .int jj), (5, .int n)]) hx hb dX12_copy_103 hl (by decide) rfl (fun ls hl => ?_)
          refine W.loop (α := (Nat → Int32) × Int32) (P := fun z ls H locs => (0 ≤ (z.2).toInt) ∧ lv_has ls 7 [(6, .int z.2), (0, .ref h0), (1, .int k), (2, .int ii), (3, .int ot), (4, .int jj), (5, .int n)] ∧ va_P g.1 vwCl [(h0, .inr (12, mO q i L)), ((q 1), .inl (g.2 0, 4, .inl a1)), ((q 2), .inl (g.2 0, 4, .inl a2)), ((q 3), .inl (g.2 0, 80, .inl a3)), ((q 4), .inl (g.2 0, 20, .inl z.1))] H ∧ va_D A [(h0, .inr (12, mO q i L)), ((q 1), .inl (g.2 0, 4, .inl a1)), ((q 2), .inl (g.2 0, 4, .inl a2)), ((q 3), .inl (g.2 0, 80, .inl a3)), ((q 4), .inl (g.2 0, 20, .inl z.1))] ∧ va_S A s.heap H locs) (μ := fun z => (n.toInt - (z.2).toInt).toNat) (a4, 0) ⟨z_ge, hl, hP, hD, hS⟩ (fun z ls H locs hh ih105 => ?_)
          obtain ⟨aq4_105, l6_105⟩ := z
          try dsimp only at hh ih105
          obtain ⟨hiv105, hl, hP, hD, hS⟩ := hh
          have hl : lv_has ls 7 [(6, .int l6_105), (0, .ref h0), (1, .int k), (2, .int ii), (3, .int ot), (4, .int jj), (5, .int n)] := hl
          replace hP : va_P g.1 vwCl [(h0, .inr (12, mO q i L)), ((q 1), .inl (g.2 0, 4, .inl a1)), ((q 2), .inl (g.2 0, 4, .inl a2)), ((q 3), .inl (g.2 0, 80, .inl a3)), ((q 4), .inl (g.2 0, 20, .inl aq4_105))] H := hP
          replace hD : va_D A [(h0, .inr (12, mO q i L)), ((q 1), .inl (g.2 0, 4, .inl a1)), ((q 2), .inl (g.2 0, 4, .inl a2)), ((q 3), .inl (g.2 0, 80, .inl a3)), ((q 4), .inl (g.2 0, 20, .inl aq4_105))] := hD
          refine lv_iload hx hb dX12_copy_105 (lv_at hl 0 rfl) ?_
          refine lv_iload hx hb dX12_copy_107 (lv_at hl 6 rfl) ?_
          refine lv_icmp_ge (tgt := 139) hx hb dX12_copy_109 (by decide) (fun c14 => ?_) (fun c14 => ?_)
          · refine lv_iconst (v := 0) hx hb dX12_copy_139 (by decide) ?_
            refine lv_istore (lv' := [(6, .int 0), (0, .ref h0), (1, .int k), (2, .int ii), (3, .int ot), (4, .int jj), (5, .int n)]) hx hb dX12_copy_140 hl (by decide) rfl (fun ls hl => ?_)
            refine W.loop (α := (Nat → Int32) × Int32) (P := fun z ls H locs => (0 ≤ (z.2).toInt) ∧ lv_has ls 7 [(6, .int z.2), (0, .ref h0), (1, .int k), (2, .int ii), (3, .int ot), (4, .int jj), (5, .int n)] ∧ va_P g.1 vwCl [(h0, .inr (12, mO q i L)), ((q 1), .inl (g.2 0, 4, .inl a1)), ((q 2), .inl (g.2 0, 4, .inl a2)), ((q 3), .inl (g.2 0, 80, .inl z.1)), ((q 4), .inl (g.2 0, 20, .inl aq4_105))] H ∧ va_D A [(h0, .inr (12, mO q i L)), ((q 1), .inl (g.2 0, 4, .inl a1)), ((q 2), .inl (g.2 0, 4, .inl a2)), ((q 3), .inl (g.2 0, 80, .inl z.1)), ((q 4), .inl (g.2 0, 20, .inl aq4_105))] ∧ va_S A s.heap H locs) (μ := fun z => (n.toInt - (z.2).toInt).toNat) (a3, 0) ⟨z_ge, hl, hP, hD, hS⟩ (fun z ls H locs hh ih142 => ?_)
            obtain ⟨aq3_142, l6_142⟩ := z
            try dsimp only at hh ih142
            obtain ⟨hiv142, hl, hP, hD, hS⟩ := hh
            have hl : lv_has ls 7 [(6, .int l6_142), (0, .ref h0), (1, .int k), (2, .int ii), (3, .int ot), (4, .int jj), (5, .int n)] := hl
            replace hP : va_P g.1 vwCl [(h0, .inr (12, mO q i L)), ((q 1), .inl (g.2 0, 4, .inl a1)), ((q 2), .inl (g.2 0, 4, .inl a2)), ((q 3), .inl (g.2 0, 80, .inl aq3_142)), ((q 4), .inl (g.2 0, 20, .inl aq4_105))] H := hP
            replace hD : va_D A [(h0, .inr (12, mO q i L)), ((q 1), .inl (g.2 0, 4, .inl a1)), ((q 2), .inl (g.2 0, 4, .inl a2)), ((q 3), .inl (g.2 0, 80, .inl aq3_142)), ((q 4), .inl (g.2 0, 20, .inl aq4_105))] := hD
            refine lv_iload hx hb dX12_copy_142 (lv_at hl 0 rfl) ?_
            refine lv_iload hx hb dX12_copy_144 (lv_at hl 6 rfl) ?_
            refine lv_icmp_ge (tgt := 177) hx hb dX12_copy_146 (by decide) (fun c15 => ?_) (fun c15 => ?_)
            · refine lv_aload_n hx hb dX12_copy_177 rfl (lv_at hl 1 rfl) ?_
              refine lv_iload hx hb dX12_copy_178 (lv_at hl 6 rfl) ?_
              refine kI (rnV (As := [.int n]) (rest := []) (Cn := RX12) C (g_refused l g h0 q i L n) 1 gX12_copy_X12_refused rfl (by decide +kernel) ⟨(Nat.le_of_ble_eq_true rfl), (Nat.le_of_ble_eq_true rfl)⟩ hP (k := 0) (ci := 12) rfl rfl rfl rfl hl.1 rfl (Nat.le_of_ble_eq_true rfl) dX12_copy_180 ⟨(Nat.le_of_ble_eq_true rfl), (Nat.le_of_ble_eq_true rfl)⟩) (spM0 [true, false, false, false, false] hP hD rfl) hA hS (fun r16 u17 H locs hw hP hD hS => ?_)
              have hre := hw
              replace hP : va_P g.1 vwCl [(h0, .inr (12, mO q (upd i 0 0) L)), ((q 1), .inl (g.2 0, 4, .inl a1)), ((q 2), .inl (g.2 0, 4, .inl a2)), ((q 3), .inl (g.2 0, 80, .inl aq3_142)), ((q 4), .inl (g.2 0, 20, .inl aq4_105))] H := hP
              replace hD : va_D A [(h0, .inr (12, mO q (upd i 0 0) L)), ((q 1), .inl (g.2 0, 4, .inl a1)), ((q 2), .inl (g.2 0, 4, .inl a2)), ((q 3), .inl (g.2 0, 80, .inl aq3_142)), ((q 4), .inl (g.2 0, 20, .inl aq4_105))] := hD
              refine nx_i (v := n) hre ?_
              exact retI C hS (0, aq3_142, aq4_105) trivial hP hD (Nat.le_of_ble_eq_true rfl) (Nat.le_of_ble_eq_true rfl) dX12_copy_183
            refine lv_aload_n hx hb dX12_copy_149 rfl (lv_at hl 1 rfl) ?_
            refine va_get (D := g.1) (ci := 12) (v := .ref (q 3)) (C := RX12) (T := TX12) (N := 66) hx hb hts hw_X12_copy_X12 hown hK hP 0 rfl rfl 3 (by decide) (hts (.fieldLink RX12 16 "OilPushModel" "sheet" "[I") (List.mem_of_getElem? (i := 4) rfl)) (fun _ h => h) rfl dX12_copy_150 ?_
            refine lv_bipush (v := 20) hx hb dX12_copy_153 (by decide) ?_
            refine lv_iload_n hx hb dX12_copy_155 rfl (lv_at hl 4 rfl) ?_
            refine lv_imul hx hb dX12_copy_156 ?_
            refine lv_iload hx hb dX12_copy_157 (lv_at hl 5 rfl) ?_
            refine lv_iadd hx hb dX12_copy_159 ?_
            refine lv_iload hx hb dX12_copy_160 (lv_at hl 0 rfl) ?_
            refine lv_iadd hx hb dX12_copy_162 ?_
            refine lv_aload_n hx hb dX12_copy_163 rfl (lv_at hl 1 rfl) ?_
            refine va_get (D := g.1) (ci := 12) (v := .ref (q 4)) (C := RX12) (T := TX12) (N := 66) hx hb hts hw_X12_copy_X12 hown hK hP 0 rfl rfl 4 (by decide) (hts (.fieldLink RX12 19 "OilPushModel" "hands" "[I") (List.mem_of_getElem? (i := 3) rfl)) (fun _ h => h) rfl dX12_copy_164 ?_
            refine lv_iload hx hb dX12_copy_167 (lv_at hl 0 rfl) ?_
            refine va_iald hx hb hK hP 4 0 rfl rfl (lt_in hiv142 c15 (by have h9 := beyond_of c10 (hSZ _).2; have h8 := (hSZ k.toNatClampNeg).2; omega)) dX12_copy_169 ?_
            refine va_iast hx hb hK hP hD hS 3 0 rfl rfl (row_in (noSheet_in c4) (beyond_of c13 (hSZ _).2).1 (by have h9 := beyond_of c13 (hSZ _).2; have h8 := (hSZ ot.toNatClampNeg).2; omega) hiv142 c15) dX12_copy_170 (fun H locs hP hD hS => ?_)
            replace hP : va_P g.1 vwCl [(h0, .inr (12, mO q i L)), ((q 1), .inl (g.2 0, 4, .inl a1)), ((q 2), .inl (g.2 0, 4, .inl a2)), ((q 3), .inl (g.2 0, 80, .inl (upd aq3_142 ((((20 * ot) + jj) + l6_142).toNatClampNeg) (aq4_105 (l6_142.toNatClampNeg))))), ((q 4), .inl (g.2 0, 20, .inl aq4_105))] H := hP
            replace hD : va_D A [(h0, .inr (12, mO q i L)), ((q 1), .inl (g.2 0, 4, .inl a1)), ((q 2), .inl (g.2 0, 4, .inl a2)), ((q 3), .inl (g.2 0, 80, .inl (upd aq3_142 ((((20 * ot) + jj) + l6_142).toNatClampNeg) (aq4_105 (l6_142.toNatClampNeg))))), ((q 4), .inl (g.2 0, 20, .inl aq4_105))] := hD
            refine lv_iinc (v := (l6_142 + 1)) (lv' := [(6, .int (l6_142 + 1)), (0, .ref h0), (1, .int k), (2, .int ii), (3, .int ot), (4, .int jj), (5, .int n)]) hx hb dX12_copy_171 hl (k := 0) rfl rfl (by decide) rfl (fun ls hl => ?_)
            refine lv_goto (tgt := 142) hx hb dX12_copy_174 (by decide) ?_
            exact ih142 ((upd aq3_142 ((((20 * ot) + jj) + l6_142).toNatClampNeg) (aq4_105 (l6_142.toNatClampNeg))), (l6_142 + 1)) ls H locs ⟨(by have h9 := inc_toInt c15; have h8 := hiv142; (try dsimp only); omega), lv_sub hl [0, 1, 2, 3, 4, 5, 6] rfl, hP, hD, hS⟩ (inc_mu2 c15)
          refine lv_aload_n hx hb dX12_copy_112 rfl (lv_at hl 1 rfl) ?_
          refine va_get (D := g.1) (ci := 12) (v := .ref (q 4)) (C := RX12) (T := TX12) (N := 66) hx hb hts hw_X12_copy_X12 hown hK hP 0 rfl rfl 4 (by decide) (hts (.fieldLink RX12 19 "OilPushModel" "hands" "[I") (List.mem_of_getElem? (i := 3) rfl)) (fun _ h => h) rfl dX12_copy_113 ?_
          refine lv_iload hx hb dX12_copy_116 (lv_at hl 0 rfl) ?_
          refine lv_aload_n hx hb dX12_copy_118 rfl (lv_at hl 1 rfl) ?_
          refine va_get (D := g.1) (ci := 12) (v := .ref (q 3)) (C := RX12) (T := TX12) (N := 66) hx hb hts hw_X12_copy_X12 hown hK hP 0 rfl rfl 3 (by decide) (hts (.fieldLink RX12 16 "OilPushModel" "sheet" "[I") (List.mem_of_getElem? (i := 4) rfl)) (fun _ h => h) rfl dX12_copy_119 ?_
          refine lv_bipush (v := 20) hx hb dX12_copy_122 (by decide) ?_
          refine lv_iload_n hx hb dX12_copy_124 rfl (lv_at hl 2 rfl) ?_
          refine lv_imul hx hb dX12_copy_125 ?_
          refine lv_iload_n hx hb dX12_copy_126 rfl (lv_at hl 3 rfl) ?_
          refine lv_iadd hx hb dX12_copy_127 ?_
          refine lv_iload hx hb dX12_copy_128 (lv_at hl 0 rfl) ?_
          refine lv_iadd hx hb dX12_copy_130 ?_
          refine va_iald hx hb hK hP 3 0 rfl rfl (row_in (noSheet_in c1) (beyond_of c10 (hSZ _).2).1 (by have h9 := beyond_of c10 (hSZ _).2; have h8 := (hSZ k.toNatClampNeg).2; omega) hiv105 c14) dX12_copy_131 ?_
          refine va_iast hx hb hK hP hD hS 4 0 rfl rfl (lt_in hiv105 c14 (by have h9 := beyond_of c10 (hSZ _).2; have h8 := (hSZ k.toNatClampNeg).2; omega)) dX12_copy_132 (fun H locs hP hD hS => ?_)
          replace hP : va_P g.1 vwCl [(h0, .inr (12, mO q i L)), ((q 1), .inl (g.2 0, 4, .inl a1)), ((q 2), .inl (g.2 0, 4, .inl a2)), ((q 3), .inl (g.2 0, 80, .inl a3)), ((q 4), .inl (g.2 0, 20, .inl (upd aq4_105 (l6_105.toNatClampNeg) (a3 ((((20 * k) + ii) + l6_105).toNatClampNeg)))))] H := hP
          replace hD : va_D A [(h0, .inr (12, mO q i L)), ((q 1), .inl (g.2 0, 4, .inl a1)), ((q 2), .inl (g.2 0, 4, .inl a2)), ((q 3), .inl (g.2 0, 80, .inl a3)), ((q 4), .inl (g.2 0, 20, .inl (upd aq4_105 (l6_105.toNatClampNeg) (a3 ((((20 * k) + ii) + l6_105).toNatClampNeg)))))] := hD
          refine lv_iinc (v := (l6_105 + 1)) (lv' := [(6, .int (l6_105 + 1)), (0, .ref h0), (1, .int k), (2, .int ii), (3, .int ot), (4, .int jj), (5, .int n)]) hx hb dX12_copy_133 hl (k := 0) rfl rfl (by decide) rfl (fun ls hl => ?_)
          refine lv_goto (tgt := 105) hx hb dX12_copy_136 (by decide) ?_
          exact ih105 ((upd aq4_105 (l6_105.toNatClampNeg) (a3 ((((20 * k) + ii) + l6_105).toNatClampNeg))), (l6_105 + 1)) ls H locs ⟨(by have h9 := inc_toInt c14; have h8 := hiv105; (try dsimp only); omega), lv_sub hl [0, 1, 2, 3, 4, 5, 6] rfl, hP, hD, hS⟩ (inc_mu2 c14)
        refine lv_aload_n hx hb dX12_copy_96 rfl (lv_at hl 0 rfl) ?_
        refine lv_iconst (v := 3) hx hb dX12_copy_97 (by decide) ?_
        refine kI (rnV (As := [.int 3]) (rest := []) (Cn := RX12) C (g_failed l g h0 q i L 3) 1 gX12_copy_X12_failed rfl (by decide +kernel) ⟨(Nat.le_of_ble_eq_true rfl), (Nat.le_of_ble_eq_true rfl)⟩ hP (k := 0) (ci := 12) rfl rfl rfl rfl hl.1 rfl (Nat.le_of_ble_eq_true rfl) dX12_copy_98 ⟨(Nat.le_of_ble_eq_true rfl), (Nat.le_of_ble_eq_true rfl)⟩) (spM0 [true, false, false, false, false] hP hD rfl) hA hS (fun r18 u19 H locs hw hP hD hS => ?_)
        have hre := hw
        replace hP : va_P g.1 vwCl [(h0, .inr (12, mO q (upd i 0 3) L)), ((q 1), .inl (g.2 0, 4, .inl a1)), ((q 2), .inl (g.2 0, 4, .inl a2)), ((q 3), .inl (g.2 0, 80, .inl a3)), ((q 4), .inl (g.2 0, 20, .inl a4))] H := hP
        replace hD : va_D A [(h0, .inr (12, mO q (upd i 0 3) L)), ((q 1), .inl (g.2 0, 4, .inl a1)), ((q 2), .inl (g.2 0, 4, .inl a2)), ((q 3), .inl (g.2 0, 80, .inl a3)), ((q 4), .inl (g.2 0, 20, .inl a4))] := hD
        refine nx_i (v := ((-10) - 3)) hre ?_
        exact retI C hS (3, a3, a4) trivial hP hD (Nat.le_of_ble_eq_true rfl) (Nat.le_of_ble_eq_true rfl) dX12_copy_101
      refine lv_aload_n hx hb dX12_copy_59 rfl (lv_at hl 0 rfl) ?_
      refine lv_iconst (v := 2) hx hb dX12_copy_60 (by decide) ?_
      refine kI (rnV (As := [.int 2]) (rest := []) (Cn := RX12) C (g_failed l g h0 q i L 2) 1 gX12_copy_X12_failed rfl (by decide +kernel) ⟨(Nat.le_of_ble_eq_true rfl), (Nat.le_of_ble_eq_true rfl)⟩ hP (k := 0) (ci := 12) rfl rfl rfl rfl hl.1 rfl (Nat.le_of_ble_eq_true rfl) dX12_copy_61 ⟨(Nat.le_of_ble_eq_true rfl), (Nat.le_of_ble_eq_true rfl)⟩) (spM0 [true, false, false, false, false] hP hD rfl) hA hS (fun r20 u21 H locs hw hP hD hS => ?_)
      have hre := hw
      replace hP : va_P g.1 vwCl [(h0, .inr (12, mO q (upd i 0 2) L)), ((q 1), .inl (g.2 0, 4, .inl a1)), ((q 2), .inl (g.2 0, 4, .inl a2)), ((q 3), .inl (g.2 0, 80, .inl a3)), ((q 4), .inl (g.2 0, 20, .inl a4))] H := hP
      replace hD : va_D A [(h0, .inr (12, mO q (upd i 0 2) L)), ((q 1), .inl (g.2 0, 4, .inl a1)), ((q 2), .inl (g.2 0, 4, .inl a2)), ((q 3), .inl (g.2 0, 80, .inl a3)), ((q 4), .inl (g.2 0, 20, .inl a4))] := hD
      refine nx_i (v := ((-10) - 2)) hre ?_
      exact retI C hS (2, a3, a4) trivial hP hD (Nat.le_of_ble_eq_true rfl) (Nat.le_of_ble_eq_true rfl) dX12_copy_64
    refine lv_aload_n hx hb dX12_copy_38 rfl (lv_at hl 0 rfl) ?_
    refine lv_iconst (v := 1) hx hb dX12_copy_39 (by decide) ?_
    refine kI (rnV (As := [.int 1]) (rest := []) (Cn := RX12) C (g_failed l g h0 q i L 1) 1 gX12_copy_X12_failed rfl (by decide +kernel) ⟨(Nat.le_of_ble_eq_true rfl), (Nat.le_of_ble_eq_true rfl)⟩ hP (k := 0) (ci := 12) rfl rfl rfl rfl hl.1 rfl (Nat.le_of_ble_eq_true rfl) dX12_copy_40 ⟨(Nat.le_of_ble_eq_true rfl), (Nat.le_of_ble_eq_true rfl)⟩) (spM0 [true, false, false, false, false] hP hD rfl) hA hS (fun r22 u23 H locs hw hP hD hS => ?_)
    have hre := hw
    replace hP : va_P g.1 vwCl [(h0, .inr (12, mO q (upd i 0 1) L)), ((q 1), .inl (g.2 0, 4, .inl a1)), ((q 2), .inl (g.2 0, 4, .inl a2)), ((q 3), .inl (g.2 0, 80, .inl a3)), ((q 4), .inl (g.2 0, 20, .inl a4))] H := hP
    replace hD : va_D A [(h0, .inr (12, mO q (upd i 0 1) L)), ((q 1), .inl (g.2 0, 4, .inl a1)), ((q 2), .inl (g.2 0, 4, .inl a2)), ((q 3), .inl (g.2 0, 80, .inl a3)), ((q 4), .inl (g.2 0, 20, .inl a4))] := hD
    refine nx_i (v := ((-10) - 1)) hre ?_
    exact retI C hS (1, a3, a4) trivial hP hD (Nat.le_of_ble_eq_true rfl) (Nat.le_of_ble_eq_true rfl) dX12_copy_43
  refine lv_aload_n hx hb dX12_copy_14 rfl (lv_at hl 0 rfl) ?_
  refine lv_iconst (v := -1) hx hb dX12_copy_15 (by decide) ?_
  refine kI (rnV (As := [.int (-1)]) (rest := []) (Cn := RX12) C (g_refused l g h0 q i L (-1)) 1 gX12_copy_X12_refused rfl (by decide +kernel) ⟨(Nat.le_of_ble_eq_true rfl), (Nat.le_of_ble_eq_true rfl)⟩ hP (k := 0) (ci := 12) rfl rfl rfl rfl hl.1 rfl (Nat.le_of_ble_eq_true rfl) dX12_copy_16 ⟨(Nat.le_of_ble_eq_true rfl), (Nat.le_of_ble_eq_true rfl)⟩) (spM0 [true, false, false, false, false] hP hD rfl) hA hS (fun r24 u25 H locs hw hP hD hS => ?_)
  have hre := hw
  replace hP : va_P g.1 vwCl [(h0, .inr (12, mO q (upd i 0 0) L)), ((q 1), .inl (g.2 0, 4, .inl a1)), ((q 2), .inl (g.2 0, 4, .inl a2)), ((q 3), .inl (g.2 0, 80, .inl a3)), ((q 4), .inl (g.2 0, 20, .inl a4))] H := hP
  replace hD : va_D A [(h0, .inr (12, mO q (upd i 0 0) L)), ((q 1), .inl (g.2 0, 4, .inl a1)), ((q 2), .inl (g.2 0, 4, .inl a2)), ((q 3), .inl (g.2 0, 80, .inl a3)), ((q 4), .inl (g.2 0, 20, .inl a4))] := hD
  refine nx_i (v := (-1)) hre ?_
  exact retI C hS (0, a3, a4) trivial hP hD (Nat.le_of_ble_eq_true rfl) (Nat.le_of_ble_eq_true rfl) dX12_copy_19
theorem hw_X12_loads_X12 : ∀ w ∈ wsX120, w ∈ wsX12_loads := fun w h => List.mem_cons_of_mem _ (List.mem_append_right _ h)
set_option maxRecDepth 100000 in
set_option maxHeartbeats 4000000 in
theorem w_loads (l : Launch) (g : Gt) (h0 : Nat) (q : Nat → Nat) (i : Nat → Int32) (L : Nat → Int64) (a1 : Nat → Int32) (a2 : Nat → Int32) (a3 : Nat → Int32) (a12 : Nat → Int32) (a13 : Nat → Int32) (a9 : Nat → Int32) (a10 : Nat → Int32) (cy : Int32) (k : Int32) (lane : Int32) (ii : Int32) (n : Int32) (h7 : 0 ≤ (i 7).toInt ∧ (i 7).toInt ≤ 6) (hSZ : SZ a1) (hM : MCI i a9 a10 a12) : Ctr l g yX12_loads wsX12_loads ({ frames := 2, cells := 0, slots := 0, locals := 46 } : Room) [.ref h0, .int cy, .int k, .int lane, .int ii, .int n] [(h0, .inr (12, mO q i L)), ((q 1), .inl (g.2 0, 4, .inl a1)), ((q 2), .inl (g.2 0, 4, .inl a2)), ((q 3), .inl (g.2 0, 80, .inl a3)), ((q 12), .inl (g.2 0, 6, .inl a12)), ((q 13), .inl (g.2 0, 60, .inl a13)), ((q 9), .inl (g.2 0, 6, .inl a9)), ((q 10), .inl (g.2 0, 6, .inl a10))] (fun A => QI g A (fun r (u : Int32 × (Nat → Int32) × (Nat → Int32)) => (MCI i a9 a10 u.2.1)) (fun (u : Int32 × (Nat → Int32) × (Nat → Int32)) => [(h0, .inr (12, mO q (upd i 0 u.1) L)), ((q 1), .inl (g.2 0, 4, .inl a1)), ((q 2), .inl (g.2 0, 4, .inl a2)), ((q 3), .inl (g.2 0, 80, .inl a3)), ((q 12), .inl (g.2 0, 6, .inl u.2.1)), ((q 13), .inl (g.2 0, 60, .inl u.2.2)), ((q 9), .inl (g.2 0, 6, .inl a9)), ((q 10), .inl (g.2 0, 6, .inl a10))])) := by
  refine Ctr.of (cc := cX12_loads) (maxL := 7) (ret := (some .int)) (by decide) rfl (Nat.le_of_ble_eq_true rfl) ?_
  intro p e s m below meth c A ls H C hP hD hA hS hl
  obtain ⟨hx, hb, hr, hts, hown, hlocks, hml, hin, hKN⟩ := id C
  have hK := hKN.1
  have hN := hKN.2
  have F : CallFix p m c cX12_loads 7 s _ wsX12_loads yX12_loads.cls := ⟨hx, hb, hml, hown, hts⟩
  have hl : lv_has ls 7 [(0, .ref h0), (1, .int cy), (2, .int k), (3, .int lane), (4, .int ii), (5, .int n)] := hl
  refine lv_aload_n hx hb dX12_loads_0 rfl (lv_at hl 0 rfl) ?_
  refine lv_iload_n hx hb dX12_loads_1 rfl (lv_at hl 1 rfl) ?_
  refine kI (rnV (As := [.int cy]) (rest := []) (Cn := RX12) C (g_noCylinder l g h0 q i L cy) 1 gX12_loads_X12_noCylinder rfl (by decide +kernel) ⟨(Nat.le_of_ble_eq_true rfl), (Nat.le_of_ble_eq_true rfl)⟩ hP (k := 0) (ci := 12) rfl rfl rfl rfl hl.1 rfl (Nat.le_of_ble_eq_true rfl) dX12_loads_2 ⟨(Nat.le_of_ble_eq_true rfl), (Nat.le_of_ble_eq_true rfl)⟩) (spM0 [true, false, false, false, false, false, false, false] hP hD rfl) hA hS (fun r1 u2 H locs hw hP hD hS => ?_)
  have hre := hw
  replace hP : va_P g.1 vwCl [(h0, .inr (12, mO q i L)), ((q 1), .inl (g.2 0, 4, .inl a1)), ((q 2), .inl (g.2 0, 4, .inl a2)), ((q 3), .inl (g.2 0, 80, .inl a3)), ((q 12), .inl (g.2 0, 6, .inl a12)), ((q 13), .inl (g.2 0, 60, .inl a13)), ((q 9), .inl (g.2 0, 6, .inl a9)), ((q 10), .inl (g.2 0, 6, .inl a10))] H := hP
  replace hD : va_D A [(h0, .inr (12, mO q i L)), ((q 1), .inl (g.2 0, 4, .inl a1)), ((q 2), .inl (g.2 0, 4, .inl a2)), ((q 3), .inl (g.2 0, 80, .inl a3)), ((q 12), .inl (g.2 0, 6, .inl a12)), ((q 13), .inl (g.2 0, 60, .inl a13)), ((q 9), .inl (g.2 0, 6, .inl a9)), ((q 10), .inl (g.2 0, 6, .inl a10))] := hD
  refine nx_i (v := (r_g_noCylinder i cy)) hre ?_
  refine lv_if_ne (tgt := 15) hx hb dX12_loads_5 (by decide) (fun c3 => ?_) (fun c3 => ?_)
  · refine lv_aload_n hx hb dX12_loads_15 rfl (lv_at hl 0 rfl) ?_
    refine lv_iconst (v := -1) hx hb dX12_loads_16 (by decide) ?_
    refine kI (rnV (As := [.int (-1)]) (rest := []) (Cn := RX12) C (g_refused l g h0 q i L (-1)) 1 gX12_loads_X12_refused rfl (by decide +kernel) ⟨(Nat.le_of_ble_eq_true rfl), (Nat.le_of_ble_eq_true rfl)⟩ hP (k := 0) (ci := 12) rfl rfl rfl rfl hl.1 rfl (Nat.le_of_ble_eq_true rfl) dX12_loads_17 ⟨(Nat.le_of_ble_eq_true rfl), (Nat.le_of_ble_eq_true rfl)⟩) (spM0 [true, false, false, false, false, false, false, false] hP hD rfl) hA hS (fun r4 u5 H locs hw hP hD hS => ?_)
    have hre := hw
    replace hP : va_P g.1 vwCl [(h0, .inr (12, mO q (upd i 0 0) L)), ((q 1), .inl (g.2 0, 4, .inl a1)), ((q 2), .inl (g.2 0, 4, .inl a2)), ((q 3), .inl (g.2 0, 80, .inl a3)), ((q 12), .inl (g.2 0, 6, .inl a12)), ((q 13), .inl (g.2 0, 60, .inl a13)), ((q 9), .inl (g.2 0, 6, .inl a9)), ((q 10), .inl (g.2 0, 6, .inl a10))] H := hP
    replace hD : va_D A [(h0, .inr (12, mO q (upd i 0 0) L)), ((q 1), .inl (g.2 0, 4, .inl a1)), ((q 2), .inl (g.2 0, 4, .inl a2)), ((q 3), .inl (g.2 0, 80, .inl a3)), ((q 12), .inl (g.2 0, 6, .inl a12)), ((q 13), .inl (g.2 0, 60, .inl a13)), ((q 9), .inl (g.2 0, 6, .inl a9)), ((q 10), .inl (g.2 0, 6, .inl a10))] := hD
    refine nx_i (v := (-1)) hre ?_
    exact retI C hS (0, a12, a13) hM hP hD (Nat.le_of_ble_eq_true rfl) (Nat.le_of_ble_eq_true rfl) dX12_loads_20
  refine lv_iload_n hx hb dX12_loads_8 rfl (lv_at hl 2 rfl) ?_
  refine pureIS (As := [.int k]) (rest := []) F (c_noSheet l k) 1 gX12_loads_X12_noSheet rfl (by decide +kernel) rfl rfl ⟨(Nat.le_of_ble_eq_true rfl), (Nat.le_of_ble_eq_true rfl)⟩ (Nat.le_of_ble_eq_true rfl) (Nat.le_of_ble_eq_true rfl) rfl hl.1 rfl (Nat.le_of_ble_eq_true rfl) dX12_loads_9 ?_
  refine lv_if_eq (tgt := 21) hx hb dX12_loads_12 (by decide) (fun c6 => ?_) (fun c6 => ?_)
  · refine lv_iload_n hx hb dX12_loads_21 rfl (lv_at hl 3 rfl) ?_
    refine lv_i2l hx hb dX12_loads_22 rfl ?_
    refine lv_lconst (v := 0) hx hb dX12_loads_23 (by decide) ?_
    refine lv_ldc2 (v := 2) hx hb hown (hts (.constantLong RX12 162 (2)) (List.mem_of_getElem? (i := 1) rfl)) dX12_loads_24 ?_
    refine pureIS (As := [.long (Int32.toInt64 lane), .long 0, .long 2]) (rest := []) F (c_in l (Int32.toInt64 lane) 0 2) 3 gX12_loads_X12_in rfl (by decide +kernel) rfl rfl ⟨(Nat.le_of_ble_eq_true rfl), (Nat.le_of_ble_eq_true rfl)⟩ (Nat.le_of_ble_eq_true rfl) (Nat.le_of_ble_eq_true rfl) rfl hl.1 rfl (Nat.le_of_ble_eq_true rfl) dX12_loads_27 ?_
    refine lv_if_ne (tgt := 40) hx hb dX12_loads_30 (by decide) (fun c7 => ?_) (fun c7 => ?_)
    · refine lv_aload_n hx hb dX12_loads_40 rfl (lv_at hl 0 rfl) ?_
      refine va_get (D := g.1) (ci := 12) (v := .ref (q 1)) (C := RX12) (T := TX12) (N := 66) hx hb hts hw_X12_loads_X12 hown hK hP 0 rfl rfl 1 (by decide) (hts (.fieldLink RX12 7 "OilPushModel" "sheetSize" "[I") (List.mem_of_getElem? (i := 2) rfl)) (fun _ h => h) rfl dX12_loads_41 ?_
      refine lv_iload_n hx hb dX12_loads_44 rfl (lv_at hl 2 rfl) ?_
      refine va_iald hx hb hK hP 1 0 rfl rfl (noSheet_in c6) dX12_loads_45 ?_
      refine lv_if_lt (tgt := 65) hx hb dX12_loads_46 (by decide) (fun c8 => ?_) (fun c8 => ?_)
      · refine lv_aload_n hx hb dX12_loads_65 rfl (lv_at hl 0 rfl) ?_
        refine va_get (D := g.1) (ci := 12) (v := .ref (q 1)) (C := RX12) (T := TX12) (N := 66) hx hb hts hw_X12_loads_X12 hown hK hP 0 rfl rfl 1 (by decide) (hts (.fieldLink RX12 7 "OilPushModel" "sheetSize" "[I") (List.mem_of_getElem? (i := 2) rfl)) (fun _ h => h) rfl dX12_loads_66 ?_
        refine lv_iload_n hx hb dX12_loads_69 rfl (lv_at hl 2 rfl) ?_
        refine va_iald hx hb hK hP 1 0 rfl rfl (noSheet_in c6) dX12_loads_70 ?_
        refine lv_if_ge (tgt := 80) hx hb dX12_loads_71 (by decide) (fun cc0 => absurd cc0 (Int32.not_le.mpr c8)) (fun _ => ?_)
        refine lv_aload_n hx hb dX12_loads_74 rfl (lv_at hl 0 rfl) ?_
        refine lv_iconst (v := 1) hx hb dX12_loads_75 (by decide) ?_
        refine kI (rnV (As := [.int 1]) (rest := []) (Cn := RX12) C (g_failed l g h0 q i L 1) 1 gX12_loads_X12_failed rfl (by decide +kernel) ⟨(Nat.le_of_ble_eq_true rfl), (Nat.le_of_ble_eq_true rfl)⟩ hP (k := 0) (ci := 12) rfl rfl rfl rfl hl.1 rfl (Nat.le_of_ble_eq_true rfl) dX12_loads_76 ⟨(Nat.le_of_ble_eq_true rfl), (Nat.le_of_ble_eq_true rfl)⟩) (spM0 [true, false, false, false, false, false, false, false] hP hD rfl) hA hS (fun r9 u10 H locs hw hP hD hS => ?_)
        have hre := hw
        replace hP : va_P g.1 vwCl [(h0, .inr (12, mO q (upd i 0 1) L)), ((q 1), .inl (g.2 0, 4, .inl a1)), ((q 2), .inl (g.2 0, 4, .inl a2)), ((q 3), .inl (g.2 0, 80, .inl a3)), ((q 12), .inl (g.2 0, 6, .inl a12)), ((q 13), .inl (g.2 0, 60, .inl a13)), ((q 9), .inl (g.2 0, 6, .inl a9)), ((q 10), .inl (g.2 0, 6, .inl a10))] H := hP
        replace hD : va_D A [(h0, .inr (12, mO q (upd i 0 1) L)), ((q 1), .inl (g.2 0, 4, .inl a1)), ((q 2), .inl (g.2 0, 4, .inl a2)), ((q 3), .inl (g.2 0, 80, .inl a3)), ((q 12), .inl (g.2 0, 6, .inl a12)), ((q 13), .inl (g.2 0, 60, .inl a13)), ((q 9), .inl (g.2 0, 6, .inl a9)), ((q 10), .inl (g.2 0, 6, .inl a10))] := hD
        refine nx_i (v := ((-10) - 1)) hre ?_
        exact retI C hS (1, a12, a13) hM hP hD (Nat.le_of_ble_eq_true rfl) (Nat.le_of_ble_eq_true rfl) dX12_loads_79
      refine lv_aload_n hx hb dX12_loads_49 rfl (lv_at hl 0 rfl) ?_
      refine va_get (D := g.1) (ci := 12) (v := .ref (q 2)) (C := RX12) (T := TX12) (N := 66) hx hb hts hw_X12_loads_X12 hown hK hP 0 rfl rfl 2 (by decide) (hts (.fieldLink RX12 13 "OilPushModel" "sheetLane" "[I") (List.mem_of_getElem? (i := 3) rfl)) (fun _ h => h) rfl dX12_loads_50 ?_
      refine lv_iload_n hx hb dX12_loads_53 rfl (lv_at hl 2 rfl) ?_
      refine va_iald hx hb hK hP 2 0 rfl rfl (noSheet_in c6) dX12_loads_54 ?_
      refine lv_iload_n hx hb dX12_loads_55 rfl (lv_at hl 3 rfl) ?_
      refine lv_icmp_eq (tgt := 65) hx hb dX12_loads_56 (by decide) (fun c11 => ?_) (fun c11 => ?_)
      · refine lv_aload_n hx hb dX12_loads_65 rfl (lv_at hl 0 rfl) ?_
        refine va_get (D := g.1) (ci := 12) (v := .ref (q 1)) (C := RX12) (T := TX12) (N := 66) hx hb hts hw_X12_loads_X12 hown hK hP 0 rfl rfl 1 (by decide) (hts (.fieldLink RX12 7 "OilPushModel" "sheetSize" "[I") (List.mem_of_getElem? (i := 2) rfl)) (fun _ h => h) rfl dX12_loads_66 ?_
        refine lv_iload_n hx hb dX12_loads_69 rfl (lv_at hl 2 rfl) ?_
        refine va_iald hx hb hK hP 1 0 rfl rfl (noSheet_in c6) dX12_loads_70 ?_
        refine lv_if_ge (tgt := 80) hx hb dX12_loads_71 (by decide) (fun _ => ?_) (fun cc0 => absurd (Int32.not_lt.mp c8) cc0)
        refine lv_iload hx hb dX12_loads_80 (lv_at hl 5 rfl) ?_
        refine lv_if_ge (tgt := 91) hx hb dX12_loads_82 (by decide) (fun c12 => ?_) (fun c12 => ?_)
        · refine lv_iload hx hb dX12_loads_91 (lv_at hl 4 rfl) ?_
          refine lv_iload hx hb dX12_loads_93 (lv_at hl 5 rfl) ?_
          refine lv_aload_n hx hb dX12_loads_95 rfl (lv_at hl 0 rfl) ?_
          refine va_get (D := g.1) (ci := 12) (v := .ref (q 1)) (C := RX12) (T := TX12) (N := 66) hx hb hts hw_X12_loads_X12 hown hK hP 0 rfl rfl 1 (by decide) (hts (.fieldLink RX12 7 "OilPushModel" "sheetSize" "[I") (List.mem_of_getElem? (i := 2) rfl)) (fun _ h => h) rfl dX12_loads_96 ?_
          refine lv_iload_n hx hb dX12_loads_99 rfl (lv_at hl 2 rfl) ?_
          refine va_iald hx hb hK hP 1 0 rfl rfl (noSheet_in c6) dX12_loads_100 ?_
          refine pureIS (As := [.int ii, .int n, .int (a1 (k.toNatClampNeg))]) (rest := []) F (c_isBeyond l ii n (a1 (k.toNatClampNeg))) 3 gX12_loads_X12_isBeyond rfl (by decide +kernel) rfl rfl ⟨(Nat.le_of_ble_eq_true rfl), (Nat.le_of_ble_eq_true rfl)⟩ (Nat.le_of_ble_eq_true rfl) (Nat.le_of_ble_eq_true rfl) rfl hl.1 rfl (Nat.le_of_ble_eq_true rfl) dX12_loads_101 ?_
          refine lv_if_eq (tgt := 113) hx hb dX12_loads_104 (by decide) (fun c13 => ?_) (fun c13 => ?_)
          · refine lv_iload hx hb dX12_loads_113 (lv_at hl 5 rfl) ?_
            refine lv_i2l hx hb dX12_loads_115 rfl ?_
            refine lv_lconst (v := 1) hx hb dX12_loads_116 (by decide) ?_
            refine lv_ldc2 (v := 10) hx hb hown (hts (.constantLong RX12 194 (10)) (List.mem_of_getElem? (i := 4) rfl)) dX12_loads_117 ?_
            refine pureIS (As := [.long (Int32.toInt64 n), .long 1, .long 10]) (rest := []) F (c_in l (Int32.toInt64 n) 1 10) 3 gX12_loads_X12_in rfl (by decide +kernel) rfl rfl ⟨(Nat.le_of_ble_eq_true rfl), (Nat.le_of_ble_eq_true rfl)⟩ (Nat.le_of_ble_eq_true rfl) (Nat.le_of_ble_eq_true rfl) rfl hl.1 rfl (Nat.le_of_ble_eq_true rfl) dX12_loads_120 ?_
            refine lv_if_ne (tgt := 133) hx hb dX12_loads_123 (by decide) (fun c14 => ?_) (fun c14 => ?_)
            · refine lv_iconst (v := 0) hx hb dX12_loads_133 (by decide) ?_
              refine lv_istore (lv' := [(6, .int 0), (0, .ref h0), (1, .int cy), (2, .int k), (3, .int lane), (4, .int ii), (5, .int n)]) hx hb dX12_loads_134 hl (by decide) rfl (fun ls hl => ?_)
              refine W.loop (α := Int32) (P := fun z ls H locs => (0 ≤ (z).toInt) ∧ lv_has ls 7 [(6, .int z), (0, .ref h0), (1, .int cy), (2, .int k), (3, .int lane), (4, .int ii), (5, .int n)] ∧ va_P g.1 vwCl [(h0, .inr (12, mO q i L)), ((q 1), .inl (g.2 0, 4, .inl a1)), ((q 2), .inl (g.2 0, 4, .inl a2)), ((q 3), .inl (g.2 0, 80, .inl a3)), ((q 12), .inl (g.2 0, 6, .inl a12)), ((q 13), .inl (g.2 0, 60, .inl a13)), ((q 9), .inl (g.2 0, 6, .inl a9)), ((q 10), .inl (g.2 0, 6, .inl a10))] H ∧ va_D A [(h0, .inr (12, mO q i L)), ((q 1), .inl (g.2 0, 4, .inl a1)), ((q 2), .inl (g.2 0, 4, .inl a2)), ((q 3), .inl (g.2 0, 80, .inl a3)), ((q 12), .inl (g.2 0, 6, .inl a12)), ((q 13), .inl (g.2 0, 60, .inl a13)), ((q 9), .inl (g.2 0, 6, .inl a9)), ((q 10), .inl (g.2 0, 6, .inl a10))] ∧ va_S A s.heap H locs) (μ := fun z => (n.toInt - (z).toInt).toNat) 0 ⟨z_ge, hl, hP, hD, hS⟩ (fun z ls H locs hh ih136 => ?_)
              obtain ⟨l6_136, rfl⟩ : ∃ x, x = z := ⟨z, rfl⟩
              try dsimp only at hh ih136
              obtain ⟨hiv136, hl, hP, hD, hS⟩ := hh
              have hl : lv_has ls 7 [(6, .int l6_136), (0, .ref h0), (1, .int cy), (2, .int k), (3, .int lane), (4, .int ii), (5, .int n)] := hl
              replace hP : va_P g.1 vwCl [(h0, .inr (12, mO q i L)), ((q 1), .inl (g.2 0, 4, .inl a1)), ((q 2), .inl (g.2 0, 4, .inl a2)), ((q 3), .inl (g.2 0, 80, .inl a3)), ((q 12), .inl (g.2 0, 6, .inl a12)), ((q 13), .inl (g.2 0, 60, .inl a13)), ((q 9), .inl (g.2 0, 6, .inl a9)), ((q 10), .inl (g.2 0, 6, .inl a10))] H := hP
              replace hD : va_D A [(h0, .inr (12, mO q i L)), ((q 1), .inl (g.2 0, 4, .inl a1)), ((q 2), .inl (g.2 0, 4, .inl a2)), ((q 3), .inl (g.2 0, 80, .inl a3)), ((q 12), .inl (g.2 0, 6, .inl a12)), ((q 13), .inl (g.2 0, 60, .inl a13)), ((q 9), .inl (g.2 0, 6, .inl a9)), ((q 10), .inl (g.2 0, 6, .inl a10))] := hD
              refine lv_iload hx hb dX12_loads_136 (lv_at hl 0 rfl) ?_
              refine lv_iload hx hb dX12_loads_138 (lv_at hl 6 rfl) ?_
              refine lv_icmp_ge (tgt := 182) hx hb dX12_loads_140 (by decide) (fun c15 => ?_) (fun c15 => ?_)
              · refine lv_aload_n hx hb dX12_loads_182 rfl (lv_at hl 1 rfl) ?_
                refine va_get (D := g.1) (ci := 12) (v := .ref (q 12)) (C := RX12) (T := TX12) (N := 66) hx hb hts hw_X12_loads_X12 hown hK hP 0 rfl rfl 12 (by decide) (hts (.fieldLink RX12 34 "OilPushModel" "loadMany" "[I") (List.mem_of_getElem? (i := 7) rfl)) (fun _ h => h) rfl dX12_loads_183 ?_
                refine lv_iload_n hx hb dX12_loads_186 rfl (lv_at hl 2 rfl) ?_
                refine lv_iload hx hb dX12_loads_187 (lv_at hl 6 rfl) ?_
                refine va_iast hx hb hK hP hD hS 4 0 rfl rfl (noCyl_in h7 c3).1 dX12_loads_189 (fun H locs hP hD hS => ?_)
                replace hP : va_P g.1 vwCl [(h0, .inr (12, mO q i L)), ((q 1), .inl (g.2 0, 4, .inl a1)), ((q 2), .inl (g.2 0, 4, .inl a2)), ((q 3), .inl (g.2 0, 80, .inl a3)), ((q 12), .inl (g.2 0, 6, .inl (upd a12 (cy.toNatClampNeg) n))), ((q 13), .inl (g.2 0, 60, .inl a13)), ((q 9), .inl (g.2 0, 6, .inl a9)), ((q 10), .inl (g.2 0, 6, .inl a10))] H := hP
                replace hD : va_D A [(h0, .inr (12, mO q i L)), ((q 1), .inl (g.2 0, 4, .inl a1)), ((q 2), .inl (g.2 0, 4, .inl a2)), ((q 3), .inl (g.2 0, 80, .inl a3)), ((q 12), .inl (g.2 0, 6, .inl (upd a12 (cy.toNatClampNeg) n))), ((q 13), .inl (g.2 0, 60, .inl a13)), ((q 9), .inl (g.2 0, 6, .inl a9)), ((q 10), .inl (g.2 0, 6, .inl a10))] := hD
                refine lv_iconst (v := 0) hx hb dX12_loads_190 (by decide) ?_
                refine lv_istore (lv' := [(6, .int 0), (0, .ref h0), (1, .int cy), (2, .int k), (3, .int lane), (4, .int ii), (5, .int n)]) hx hb dX12_loads_191 hl (by decide) rfl (fun ls hl => ?_)
                refine W.loop (α := (Nat → Int32) × Int32) (P := fun z ls H locs => (0 ≤ (z.2).toInt) ∧ lv_has ls 7 [(6, .int z.2), (0, .ref h0), (1, .int cy), (2, .int k), (3, .int lane), (4, .int ii), (5, .int n)] ∧ va_P g.1 vwCl [(h0, .inr (12, mO q i L)), ((q 1), .inl (g.2 0, 4, .inl a1)), ((q 2), .inl (g.2 0, 4, .inl a2)), ((q 3), .inl (g.2 0, 80, .inl a3)), ((q 12), .inl (g.2 0, 6, .inl (upd a12 (cy.toNatClampNeg) n))), ((q 13), .inl (g.2 0, 60, .inl z.1)), ((q 9), .inl (g.2 0, 6, .inl a9)), ((q 10), .inl (g.2 0, 6, .inl a10))] H ∧ va_D A [(h0, .inr (12, mO q i L)), ((q 1), .inl (g.2 0, 4, .inl a1)), ((q 2), .inl (g.2 0, 4, .inl a2)), ((q 3), .inl (g.2 0, 80, .inl a3)), ((q 12), .inl (g.2 0, 6, .inl (upd a12 (cy.toNatClampNeg) n))), ((q 13), .inl (g.2 0, 60, .inl z.1)), ((q 9), .inl (g.2 0, 6, .inl a9)), ((q 10), .inl (g.2 0, 6, .inl a10))] ∧ va_S A s.heap H locs) (μ := fun z => (n.toInt - (z.2).toInt).toNat) (a13, 0) ⟨z_ge, hl, hP, hD, hS⟩ (fun z ls H locs hh ih193 => ?_)
                obtain ⟨aq13_193, l6_193⟩ := z
                try dsimp only at hh ih193
                obtain ⟨hiv193, hl, hP, hD, hS⟩ := hh
                have hl : lv_has ls 7 [(6, .int l6_193), (0, .ref h0), (1, .int cy), (2, .int k), (3, .int lane), (4, .int ii), (5, .int n)] := hl
                replace hP : va_P g.1 vwCl [(h0, .inr (12, mO q i L)), ((q 1), .inl (g.2 0, 4, .inl a1)), ((q 2), .inl (g.2 0, 4, .inl a2)), ((q 3), .inl (g.2 0, 80, .inl a3)), ((q 12), .inl (g.2 0, 6, .inl (upd a12 (cy.toNatClampNeg) n))), ((q 13), .inl (g.2 0, 60, .inl aq13_193)), ((q 9), .inl (g.2 0, 6, .inl a9)), ((q 10), .inl (g.2 0, 6, .inl a10))] H := hP
                replace hD : va_D A [(h0, .inr (12, mO q i L)), ((q 1), .inl (g.2 0, 4, .inl a1)), ((q 2), .inl (g.2 0, 4, .inl a2)), ((q 3), .inl (g.2 0, 80, .inl a3)), ((q 12), .inl (g.2 0, 6, .inl (upd a12 (cy.toNatClampNeg) n))), ((q 13), .inl (g.2 0, 60, .inl aq13_193)), ((q 9), .inl (g.2 0, 6, .inl a9)), ((q 10), .inl (g.2 0, 6, .inl a10))] := hD
                refine lv_iload hx hb dX12_loads_193 (lv_at hl 0 rfl) ?_
                refine lv_iload hx hb dX12_loads_195 (lv_at hl 6 rfl) ?_
                refine lv_icmp_ge (tgt := 233) hx hb dX12_loads_197 (by decide) (fun c16 => ?_) (fun c16 => ?_)
                · refine lv_aload_n hx hb dX12_loads_233 rfl (lv_at hl 1 rfl) ?_
                  refine lv_iload hx hb dX12_loads_234 (lv_at hl 6 rfl) ?_
                  refine kI (rnV (As := [.int n]) (rest := []) (Cn := RX12) C (g_refused l g h0 q i L n) 1 gX12_loads_X12_refused rfl (by decide +kernel) ⟨(Nat.le_of_ble_eq_true rfl), (Nat.le_of_ble_eq_true rfl)⟩ hP (k := 0) (ci := 12) rfl rfl rfl rfl hl.1 rfl (Nat.le_of_ble_eq_true rfl) dX12_loads_236 ⟨(Nat.le_of_ble_eq_true rfl), (Nat.le_of_ble_eq_true rfl)⟩) (spM0 [true, false, false, false, false, false, false, false] hP hD rfl) hA hS (fun r17 u18 H locs hw hP hD hS => ?_)
                  have hre := hw
                  replace hP : va_P g.1 vwCl [(h0, .inr (12, mO q (upd i 0 0) L)), ((q 1), .inl (g.2 0, 4, .inl a1)), ((q 2), .inl (g.2 0, 4, .inl a2)), ((q 3), .inl (g.2 0, 80, .inl a3)), ((q 12), .inl (g.2 0, 6, .inl (upd a12 (cy.toNatClampNeg) n))), ((q 13), .inl (g.2 0, 60, .inl aq13_193)), ((q 9), .inl (g.2 0, 6, .inl a9)), ((q 10), .inl (g.2 0, 6, .inl a10))] H := hP
                  replace hD : va_D A [(h0, .inr (12, mO q (upd i 0 0) L)), ((q 1), .inl (g.2 0, 4, .inl a1)), ((q 2), .inl (g.2 0, 4, .inl a2)), ((q 3), .inl (g.2 0, 80, .inl a3)), ((q 12), .inl (g.2 0, 6, .inl (upd a12 (cy.toNatClampNeg) n))), ((q 13), .inl (g.2 0, 60, .inl aq13_193)), ((q 9), .inl (g.2 0, 6, .inl a9)), ((q 10), .inl (g.2 0, 6, .inl a10))] := hD
                  refine nx_i (v := n) hre ?_
                  exact retI C hS (0, (upd a12 (cy.toNatClampNeg) n), aq13_193) (MCI_ld hM (in_32 (lo := 1) (hi := 10) c14)) hP hD (Nat.le_of_ble_eq_true rfl) (Nat.le_of_ble_eq_true rfl) dX12_loads_239
                refine lv_aload_n hx hb dX12_loads_200 rfl (lv_at hl 1 rfl) ?_
                refine va_get (D := g.1) (ci := 12) (v := .ref (q 13)) (C := RX12) (T := TX12) (N := 66) hx hb hts hw_X12_loads_X12 hown hK hP 0 rfl rfl 13 (by decide) (hts (.fieldLink RX12 37 "OilPushModel" "load" "[I") (List.mem_of_getElem? (i := 8) rfl)) (fun _ h => h) rfl dX12_loads_201 ?_
                refine lv_bipush (v := 10) hx hb dX12_loads_204 (by decide) ?_
                refine lv_iload_n hx hb dX12_loads_206 rfl (lv_at hl 2 rfl) ?_
                refine lv_imul hx hb dX12_loads_207 ?_
                refine lv_iload hx hb dX12_loads_208 (lv_at hl 0 rfl) ?_
                refine lv_iadd hx hb dX12_loads_210 ?_
                refine lv_aload_n hx hb dX12_loads_211 rfl (lv_at hl 1 rfl) ?_
                refine va_get (D := g.1) (ci := 12) (v := .ref (q 3)) (C := RX12) (T := TX12) (N := 66) hx hb hts hw_X12_loads_X12 hown hK hP 0 rfl rfl 3 (by decide) (hts (.fieldLink RX12 16 "OilPushModel" "sheet" "[I") (List.mem_of_getElem? (i := 5) rfl)) (fun _ h => h) rfl dX12_loads_212 ?_
                refine lv_bipush (v := 20) hx hb dX12_loads_215 (by decide) ?_
                refine lv_iload_n hx hb dX12_loads_217 rfl (lv_at hl 3 rfl) ?_
                refine lv_imul hx hb dX12_loads_218 ?_
                refine lv_iload hx hb dX12_loads_219 (lv_at hl 5 rfl) ?_
                refine lv_iadd hx hb dX12_loads_221 ?_
                refine lv_iload hx hb dX12_loads_222 (lv_at hl 0 rfl) ?_
                refine lv_iadd hx hb dX12_loads_224 ?_
                refine va_iald hx hb hK hP 3 0 rfl rfl (row_in (noSheet_in c6) (beyond_of c13 (hSZ _).2).1 (by have h9 := beyond_of c13 (hSZ _).2; have h8 := (hSZ k.toNatClampNeg).2; omega) hiv193 c16) dX12_loads_225 ?_
                refine va_iast hx hb hK hP hD hS 5 0 rfl rfl (ld_in (noCyl_in h7 c3).1 (in_32 (lo := 1) (hi := 10) c14).2 hiv193 c16) dX12_loads_226 (fun H locs hP hD hS => ?_)
                replace hP : va_P g.1 vwCl [(h0, .inr (12, mO q i L)), ((q 1), .inl (g.2 0, 4, .inl a1)), ((q 2), .inl (g.2 0, 4, .inl a2)), ((q 3), .inl (g.2 0, 80, .inl a3)), ((q 12), .inl (g.2 0, 6, .inl (upd a12 (cy.toNatClampNeg) n))), ((q 13), .inl (g.2 0, 60, .inl (upd aq13_193 (((10 * cy) + l6_193).toNatClampNeg) (a3 ((((20 * k) + ii) + l6_193).toNatClampNeg))))), ((q 9), .inl (g.2 0, 6, .inl a9)), ((q 10), .inl (g.2 0, 6, .inl a10))] H := hP
                replace hD : va_D A [(h0, .inr (12, mO q i L)), ((q 1), .inl (g.2 0, 4, .inl a1)), ((q 2), .inl (g.2 0, 4, .inl a2)), ((q 3), .inl (g.2 0, 80, .inl a3)), ((q 12), .inl (g.2 0, 6, .inl (upd a12 (cy.toNatClampNeg) n))), ((q 13), .inl (g.2 0, 60, .inl (upd aq13_193 (((10 * cy) + l6_193).toNatClampNeg) (a3 ((((20 * k) + ii) + l6_193).toNatClampNeg))))), ((q 9), .inl (g.2 0, 6, .inl a9)), ((q 10), .inl (g.2 0, 6, .inl a10))] := hD
                refine lv_iinc (v := (l6_193 + 1)) (lv' := [(6, .int (l6_193 + 1)), (0, .ref h0), (1, .int cy), (2, .int k), (3, .int lane), (4, .int ii), (5, .int n)]) hx hb dX12_loads_227 hl (k := 0) rfl rfl (by decide) rfl (fun ls hl => ?_)
                refine lv_goto (tgt := 193) hx hb dX12_loads_230 (by decide) ?_
                exact ih193 ((upd aq13_193 (((10 * cy) + l6_193).toNatClampNeg) (a3 ((((20 * k) + ii) + l6_193).toNatClampNeg))), (l6_193 + 1)) ls H locs ⟨(by have h9 := inc_toInt c16; have h8 := hiv193; (try dsimp only); omega), lv_sub hl [0, 1, 2, 3, 4, 5, 6] rfl, hP, hD, hS⟩ (inc_mu2 c16)
              refine lv_aload_n hx hb dX12_loads_143 rfl (lv_at hl 1 rfl) ?_
              refine va_get (D := g.1) (ci := 12) (v := .ref (q 3)) (C := RX12) (T := TX12) (N := 66) hx hb hts hw_X12_loads_X12 hown hK hP 0 rfl rfl 3 (by decide) (hts (.fieldLink RX12 16 "OilPushModel" "sheet" "[I") (List.mem_of_getElem? (i := 5) rfl)) (fun _ h => h) rfl dX12_loads_144 ?_
              refine lv_bipush (v := 20) hx hb dX12_loads_147 (by decide) ?_
              refine lv_iload_n hx hb dX12_loads_149 rfl (lv_at hl 3 rfl) ?_
              refine lv_imul hx hb dX12_loads_150 ?_
              refine lv_iload hx hb dX12_loads_151 (lv_at hl 5 rfl) ?_
              refine lv_iadd hx hb dX12_loads_153 ?_
              refine lv_iload hx hb dX12_loads_154 (lv_at hl 0 rfl) ?_
              refine lv_iadd hx hb dX12_loads_156 ?_
              refine va_iald hx hb hK hP 3 0 rfl rfl (row_in (noSheet_in c6) (beyond_of c13 (hSZ _).2).1 (by have h9 := beyond_of c13 (hSZ _).2; have h8 := (hSZ k.toNatClampNeg).2; omega) hiv136 c15) dX12_loads_157 ?_
              refine lv_i2l hx hb dX12_loads_158 rfl ?_
              refine lv_lconst (v := 0) hx hb dX12_loads_159 (by decide) ?_
              refine lv_ldc2 (v := 100000) hx hb hown (hts (.constantLong RX12 196 (100000)) (List.mem_of_getElem? (i := 6) rfl)) dX12_loads_160 ?_
              refine pureIS (As := [.long (Int32.toInt64 (a3 ((((20 * k) + ii) + l6_136).toNatClampNeg))), .long 0, .long 100000]) (rest := []) F (c_in l (Int32.toInt64 (a3 ((((20 * k) + ii) + l6_136).toNatClampNeg))) 0 100000) 3 gX12_loads_X12_in rfl (by decide +kernel) rfl rfl ⟨(Nat.le_of_ble_eq_true rfl), (Nat.le_of_ble_eq_true rfl)⟩ (Nat.le_of_ble_eq_true rfl) (Nat.le_of_ble_eq_true rfl) rfl hl.1 rfl (Nat.le_of_ble_eq_true rfl) dX12_loads_163 ?_
              refine lv_if_ne (tgt := 176) hx hb dX12_loads_166 (by decide) (fun c19 => ?_) (fun c19 => ?_)
              · refine lv_iinc (v := (l6_136 + 1)) (lv' := [(6, .int (l6_136 + 1)), (0, .ref h0), (1, .int cy), (2, .int k), (3, .int lane), (4, .int ii), (5, .int n)]) hx hb dX12_loads_176 hl (k := 0) rfl rfl (by decide) rfl (fun ls hl => ?_)
                refine lv_goto (tgt := 136) hx hb dX12_loads_179 (by decide) ?_
                exact ih136 (l6_136 + 1) ls H locs ⟨(by have h9 := inc_toInt c15; have h8 := hiv136; (try dsimp only); omega), lv_sub hl [0, 1, 2, 3, 4, 5, 6] rfl, hP, hD, hS⟩ (inc_mu2 c15)
              refine lv_aload_n hx hb dX12_loads_169 rfl (lv_at hl 1 rfl) ?_
              refine lv_bipush (v := -2) hx hb dX12_loads_170 (by decide) ?_
              refine kI (rnV (As := [.int (-2)]) (rest := []) (Cn := RX12) C (g_refused l g h0 q i L (-2)) 1 gX12_loads_X12_refused rfl (by decide +kernel) ⟨(Nat.le_of_ble_eq_true rfl), (Nat.le_of_ble_eq_true rfl)⟩ hP (k := 0) (ci := 12) rfl rfl rfl rfl hl.1 rfl (Nat.le_of_ble_eq_true rfl) dX12_loads_172 ⟨(Nat.le_of_ble_eq_true rfl), (Nat.le_of_ble_eq_true rfl)⟩) (spM0 [true, false, false, false, false, false, false, false] hP hD rfl) hA hS (fun r20 u21 H locs hw hP hD hS => ?_)
              have hre := hw
              replace hP : va_P g.1 vwCl [(h0, .inr (12, mO q (upd i 0 0) L)), ((q 1), .inl (g.2 0, 4, .inl a1)), ((q 2), .inl (g.2 0, 4, .inl a2)), ((q 3), .inl (g.2 0, 80, .inl a3)), ((q 12), .inl (g.2 0, 6, .inl a12)), ((q 13), .inl (g.2 0, 60, .inl a13)), ((q 9), .inl (g.2 0, 6, .inl a9)), ((q 10), .inl (g.2 0, 6, .inl a10))] H := hP
              replace hD : va_D A [(h0, .inr (12, mO q (upd i 0 0) L)), ((q 1), .inl (g.2 0, 4, .inl a1)), ((q 2), .inl (g.2 0, 4, .inl a2)), ((q 3), .inl (g.2 0, 80, .inl a3)), ((q 12), .inl (g.2 0, 6, .inl a12)), ((q 13), .inl (g.2 0, 60, .inl a13)), ((q 9), .inl (g.2 0, 6, .inl a9)), ((q 10), .inl (g.2 0, 6, .inl a10))] := hD
              refine nx_i (v := (-2)) hre ?_
              exact retI C hS (0, a12, a13) hM hP hD (Nat.le_of_ble_eq_true rfl) (Nat.le_of_ble_eq_true rfl) dX12_loads_175
            refine lv_aload_n hx hb dX12_loads_126 rfl (lv_at hl 0 rfl) ?_
            refine lv_bipush (v := -2) hx hb dX12_loads_127 (by decide) ?_
            refine kI (rnV (As := [.int (-2)]) (rest := []) (Cn := RX12) C (g_refused l g h0 q i L (-2)) 1 gX12_loads_X12_refused rfl (by decide +kernel) ⟨(Nat.le_of_ble_eq_true rfl), (Nat.le_of_ble_eq_true rfl)⟩ hP (k := 0) (ci := 12) rfl rfl rfl rfl hl.1 rfl (Nat.le_of_ble_eq_true rfl) dX12_loads_129 ⟨(Nat.le_of_ble_eq_true rfl), (Nat.le_of_ble_eq_true rfl)⟩) (spM0 [true, false, false, false, false, false, false, false] hP hD rfl) hA hS (fun r22 u23 H locs hw hP hD hS => ?_)
            have hre := hw
            replace hP : va_P g.1 vwCl [(h0, .inr (12, mO q (upd i 0 0) L)), ((q 1), .inl (g.2 0, 4, .inl a1)), ((q 2), .inl (g.2 0, 4, .inl a2)), ((q 3), .inl (g.2 0, 80, .inl a3)), ((q 12), .inl (g.2 0, 6, .inl a12)), ((q 13), .inl (g.2 0, 60, .inl a13)), ((q 9), .inl (g.2 0, 6, .inl a9)), ((q 10), .inl (g.2 0, 6, .inl a10))] H := hP
            replace hD : va_D A [(h0, .inr (12, mO q (upd i 0 0) L)), ((q 1), .inl (g.2 0, 4, .inl a1)), ((q 2), .inl (g.2 0, 4, .inl a2)), ((q 3), .inl (g.2 0, 80, .inl a3)), ((q 12), .inl (g.2 0, 6, .inl a12)), ((q 13), .inl (g.2 0, 60, .inl a13)), ((q 9), .inl (g.2 0, 6, .inl a9)), ((q 10), .inl (g.2 0, 6, .inl a10))] := hD
            refine nx_i (v := (-2)) hre ?_
            exact retI C hS (0, a12, a13) hM hP hD (Nat.le_of_ble_eq_true rfl) (Nat.le_of_ble_eq_true rfl) dX12_loads_132
          refine lv_aload_n hx hb dX12_loads_107 rfl (lv_at hl 0 rfl) ?_
          refine lv_iconst (v := 3) hx hb dX12_loads_108 (by decide) ?_
          refine kI (rnV (As := [.int 3]) (rest := []) (Cn := RX12) C (g_failed l g h0 q i L 3) 1 gX12_loads_X12_failed rfl (by decide +kernel) ⟨(Nat.le_of_ble_eq_true rfl), (Nat.le_of_ble_eq_true rfl)⟩ hP (k := 0) (ci := 12) rfl rfl rfl rfl hl.1 rfl (Nat.le_of_ble_eq_true rfl) dX12_loads_109 ⟨(Nat.le_of_ble_eq_true rfl), (Nat.le_of_ble_eq_true rfl)⟩) (spM0 [true, false, false, false, false, false, false, false] hP hD rfl) hA hS (fun r24 u25 H locs hw hP hD hS => ?_)
          have hre := hw
          replace hP : va_P g.1 vwCl [(h0, .inr (12, mO q (upd i 0 3) L)), ((q 1), .inl (g.2 0, 4, .inl a1)), ((q 2), .inl (g.2 0, 4, .inl a2)), ((q 3), .inl (g.2 0, 80, .inl a3)), ((q 12), .inl (g.2 0, 6, .inl a12)), ((q 13), .inl (g.2 0, 60, .inl a13)), ((q 9), .inl (g.2 0, 6, .inl a9)), ((q 10), .inl (g.2 0, 6, .inl a10))] H := hP
          replace hD : va_D A [(h0, .inr (12, mO q (upd i 0 3) L)), ((q 1), .inl (g.2 0, 4, .inl a1)), ((q 2), .inl (g.2 0, 4, .inl a2)), ((q 3), .inl (g.2 0, 80, .inl a3)), ((q 12), .inl (g.2 0, 6, .inl a12)), ((q 13), .inl (g.2 0, 60, .inl a13)), ((q 9), .inl (g.2 0, 6, .inl a9)), ((q 10), .inl (g.2 0, 6, .inl a10))] := hD
          refine nx_i (v := ((-10) - 3)) hre ?_
          exact retI C hS (3, a12, a13) hM hP hD (Nat.le_of_ble_eq_true rfl) (Nat.le_of_ble_eq_true rfl) dX12_loads_112
        refine lv_aload_n hx hb dX12_loads_85 rfl (lv_at hl 0 rfl) ?_
        refine lv_iconst (v := 4) hx hb dX12_loads_86 (by decide) ?_
        refine kI (rnV (As := [.int 4]) (rest := []) (Cn := RX12) C (g_failed l g h0 q i L 4) 1 gX12_loads_X12_failed rfl (by decide +kernel) ⟨(Nat.le_of_ble_eq_true rfl), (Nat.le_of_ble_eq_true rfl)⟩ hP (k := 0) (ci := 12) rfl rfl rfl rfl hl.1 rfl (Nat.le_of_ble_eq_true rfl) dX12_loads_87 ⟨(Nat.le_of_ble_eq_true rfl), (Nat.le_of_ble_eq_true rfl)⟩) (spM0 [true, false, false, false, false, false, false, false] hP hD rfl) hA hS (fun r26 u27 H locs hw hP hD hS => ?_)
        have hre := hw
        replace hP : va_P g.1 vwCl [(h0, .inr (12, mO q (upd i 0 4) L)), ((q 1), .inl (g.2 0, 4, .inl a1)), ((q 2), .inl (g.2 0, 4, .inl a2)), ((q 3), .inl (g.2 0, 80, .inl a3)), ((q 12), .inl (g.2 0, 6, .inl a12)), ((q 13), .inl (g.2 0, 60, .inl a13)), ((q 9), .inl (g.2 0, 6, .inl a9)), ((q 10), .inl (g.2 0, 6, .inl a10))] H := hP
        replace hD : va_D A [(h0, .inr (12, mO q (upd i 0 4) L)), ((q 1), .inl (g.2 0, 4, .inl a1)), ((q 2), .inl (g.2 0, 4, .inl a2)), ((q 3), .inl (g.2 0, 80, .inl a3)), ((q 12), .inl (g.2 0, 6, .inl a12)), ((q 13), .inl (g.2 0, 60, .inl a13)), ((q 9), .inl (g.2 0, 6, .inl a9)), ((q 10), .inl (g.2 0, 6, .inl a10))] := hD
        refine nx_i (v := ((-10) - 4)) hre ?_
        exact retI C hS (4, a12, a13) hM hP hD (Nat.le_of_ble_eq_true rfl) (Nat.le_of_ble_eq_true rfl) dX12_loads_90
      refine lv_aload_n hx hb dX12_loads_59 rfl (lv_at hl 0 rfl) ?_
      refine lv_iconst (v := 2) hx hb dX12_loads_60 (by decide) ?_
      refine kI (rnV (As := [.int 2]) (rest := []) (Cn := RX12) C (g_failed l g h0 q i L 2) 1 gX12_loads_X12_failed rfl (by decide +kernel) ⟨(Nat.le_of_ble_eq_true rfl), (Nat.le_of_ble_eq_true rfl)⟩ hP (k := 0) (ci := 12) rfl rfl rfl rfl hl.1 rfl (Nat.le_of_ble_eq_true rfl) dX12_loads_61 ⟨(Nat.le_of_ble_eq_true rfl), (Nat.le_of_ble_eq_true rfl)⟩) (spM0 [true, false, false, false, false, false, false, false] hP hD rfl) hA hS (fun r28 u29 H locs hw hP hD hS => ?_)
      have hre := hw
      replace hP : va_P g.1 vwCl [(h0, .inr (12, mO q (upd i 0 2) L)), ((q 1), .inl (g.2 0, 4, .inl a1)), ((q 2), .inl (g.2 0, 4, .inl a2)), ((q 3), .inl (g.2 0, 80, .inl a3)), ((q 12), .inl (g.2 0, 6, .inl a12)), ((q 13), .inl (g.2 0, 60, .inl a13)), ((q 9), .inl (g.2 0, 6, .inl a9)), ((q 10), .inl (g.2 0, 6, .inl a10))] H := hP
      replace hD : va_D A [(h0, .inr (12, mO q (upd i 0 2) L)), ((q 1), .inl (g.2 0, 4, .inl a1)), ((q 2), .inl (g.2 0, 4, .inl a2)), ((q 3), .inl (g.2 0, 80, .inl a3)), ((q 12), .inl (g.2 0, 6, .inl a12)), ((q 13), .inl (g.2 0, 60, .inl a13)), ((q 9), .inl (g.2 0, 6, .inl a9)), ((q 10), .inl (g.2 0, 6, .inl a10))] := hD
      refine nx_i (v := ((-10) - 2)) hre ?_
      exact retI C hS (2, a12, a13) hM hP hD (Nat.le_of_ble_eq_true rfl) (Nat.le_of_ble_eq_true rfl) dX12_loads_64
    refine lv_aload_n hx hb dX12_loads_33 rfl (lv_at hl 0 rfl) ?_
    refine lv_bipush (v := -2) hx hb dX12_loads_34 (by decide) ?_
    refine kI (rnV (As := [.int (-2)]) (rest := []) (Cn := RX12) C (g_refused l g h0 q i L (-2)) 1 gX12_loads_X12_refused rfl (by decide +kernel) ⟨(Nat.le_of_ble_eq_true rfl), (Nat.le_of_ble_eq_true rfl)⟩ hP (k := 0) (ci := 12) rfl rfl rfl rfl hl.1 rfl (Nat.le_of_ble_eq_true rfl) dX12_loads_36 ⟨(Nat.le_of_ble_eq_true rfl), (Nat.le_of_ble_eq_true rfl)⟩) (spM0 [true, false, false, false, false, false, false, false] hP hD rfl) hA hS (fun r30 u31 H locs hw hP hD hS => ?_)
    have hre := hw
    replace hP : va_P g.1 vwCl [(h0, .inr (12, mO q (upd i 0 0) L)), ((q 1), .inl (g.2 0, 4, .inl a1)), ((q 2), .inl (g.2 0, 4, .inl a2)), ((q 3), .inl (g.2 0, 80, .inl a3)), ((q 12), .inl (g.2 0, 6, .inl a12)), ((q 13), .inl (g.2 0, 60, .inl a13)), ((q 9), .inl (g.2 0, 6, .inl a9)), ((q 10), .inl (g.2 0, 6, .inl a10))] H := hP
    replace hD : va_D A [(h0, .inr (12, mO q (upd i 0 0) L)), ((q 1), .inl (g.2 0, 4, .inl a1)), ((q 2), .inl (g.2 0, 4, .inl a2)), ((q 3), .inl (g.2 0, 80, .inl a3)), ((q 12), .inl (g.2 0, 6, .inl a12)), ((q 13), .inl (g.2 0, 60, .inl a13)), ((q 9), .inl (g.2 0, 6, .inl a9)), ((q 10), .inl (g.2 0, 6, .inl a10))] := hD
    refine nx_i (v := (-2)) hre ?_
    exact retI C hS (0, a12, a13) hM hP hD (Nat.le_of_ble_eq_true rfl) (Nat.le_of_ble_eq_true rfl) dX12_loads_39
  refine lv_aload_n hx hb dX12_loads_15 rfl (lv_at hl 0 rfl) ?_
  refine lv_iconst (v := -1) hx hb dX12_loads_16 (by decide) ?_
  refine kI (rnV (As := [.int (-1)]) (rest := []) (Cn := RX12) C (g_refused l g h0 q i L (-1)) 1 gX12_loads_X12_refused rfl (by decide +kernel) ⟨(Nat.le_of_ble_eq_true rfl), (Nat.le_of_ble_eq_true rfl)⟩ hP (k := 0) (ci := 12) rfl rfl rfl rfl hl.1 rfl (Nat.le_of_ble_eq_true rfl) dX12_loads_17 ⟨(Nat.le_of_ble_eq_true rfl), (Nat.le_of_ble_eq_true rfl)⟩) (spM0 [true, false, false, false, false, false, false, false] hP hD rfl) hA hS (fun r32 u33 H locs hw hP hD hS => ?_)
  have hre := hw
  replace hP : va_P g.1 vwCl [(h0, .inr (12, mO q (upd i 0 0) L)), ((q 1), .inl (g.2 0, 4, .inl a1)), ((q 2), .inl (g.2 0, 4, .inl a2)), ((q 3), .inl (g.2 0, 80, .inl a3)), ((q 12), .inl (g.2 0, 6, .inl a12)), ((q 13), .inl (g.2 0, 60, .inl a13)), ((q 9), .inl (g.2 0, 6, .inl a9)), ((q 10), .inl (g.2 0, 6, .inl a10))] H := hP
  replace hD : va_D A [(h0, .inr (12, mO q (upd i 0 0) L)), ((q 1), .inl (g.2 0, 4, .inl a1)), ((q 2), .inl (g.2 0, 4, .inl a2)), ((q 3), .inl (g.2 0, 80, .inl a3)), ((q 12), .inl (g.2 0, 6, .inl a12)), ((q 13), .inl (g.2 0, 60, .inl a13)), ((q 9), .inl (g.2 0, 6, .inl a9)), ((q 10), .inl (g.2 0, 6, .inl a10))] := hD
  refine nx_i (v := (-1)) hre ?_
  exact retI C hS (0, a12, a13) hM hP hD (Nat.le_of_ble_eq_true rfl) (Nat.le_of_ble_eq_true rfl) dX12_loads_20
