def mO (q : Nat → Nat) (i : Nat → Int32) (L : Nat → Int64) : List Value := [.int (i 0), .ref (q 1), .ref (q 2), .ref (q 3), .ref (q 4), .int (i 5), .int (i 6), .int (i 7), .ref (q 8), .ref (q 9), .ref (q 10), .ref (q 11), .ref (q 12), .ref (q 13), .ref (q 14), .ref (q 15), .ref (q 16), .ref (q 17), .ref (q 18), .ref (q 19), .int (i 20), .int (i 21), .int (i 22), .int (i 23), .int (i 24), .ref (q 25), .ref (q 26), .ref (q 27), .ref (q 28), .int (i 29), .int (i 30), .int (i 31), .int (i 32), .int (i 33), .int (i 34), .int (i 35), .ref (q 36), .long (L 37), .long (L 38), .long (L 39), .int (i 40), .ref (q 41), .ref (q 42), .ref (q 43), .ref (q 44), .int (i 45), .int (i 46), .ref (q 47), .ref (q 48), .ref (q 49), .int (i 50), .int (i 51), .int (i 52), .ref (q 53), .ref (q 54), .ref (q 55), .ref (q 56), .ref (q 57), .ref (q 58), .ref (q 59), .ref (q 60), .ref (q 61), .ref (q 62), .ref (q 63), .int (i 64), .int (i 65)]
theorem hg_X12_refused_X12 : ∀ w ∈ wsX120, w ∈ wsX12_refused := fun w h => List.mem_cons_of_mem _ (List.mem_append_right _ h)
set_option maxRecDepth 100000 in
set_option maxHeartbeats 4000000 in
theorem g_refused (l : Launch) (g : Gt) (h0 : Nat) (q : Nat → Nat) (i : Nat → Int32) (L : Nat → Int64) (code_ : Int32)  : Ctr l g yX12_refused wsX12_refused ({ frames := 0, cells := 0, slots := 0, locals := 0 } : Room) [.ref h0, .int code_] [(h0, .inr (12, mO q i L))] (fun A => QI g A (fun r (_ : Unit) => r = code_) (fun _u : Unit => [(h0, .inr (12, mO q (upd i 0 0) L))])) := by
  refine Ctr.of (cc := cX12_refused) (maxL := 2) (ret := (some .int)) (by decide) rfl (Nat.le_of_ble_eq_true rfl) ?_
  intro p e s m below meth c A ls H C hP hD hA hS hl
  obtain ⟨hx, hb, hr, hts, hown, hlocks, hml, hin, hKN⟩ := id C
  have hK := hKN.1
  have hN := hKN.2
  have F : CallFix p m c cX12_refused 2 s _ wsX12_refused yX12_refused.cls := ⟨hx, hb, hml, hown, hts⟩
  have hl : lv_has ls 2 [(0, .ref h0), (1, .int code_)] := hl
  refine lv_aload_n hx hb dX12_refused_0 rfl (lv_at hl 0 rfl) ?_
  refine lv_iconst (v := 0) hx hb dX12_refused_1 (by decide) ?_
  refine va_put (D := g.1) (ci := 12) (v := .int 0) (ty := .int) (C := RX12) (T := TX12) (N := 66) hx hb hts hg_X12_refused_X12 tyX12 tyX12_ok nmX12 hown hK hP hD hS 0 rfl rfl 0 (by decide) (hts (.fieldLink RX12 141 "OilPushModel" "fault" "I") (List.mem_of_getElem? (i := 1) rfl)) (fun _ h => h) rfl (by decide +kernel) rfl rfl (Nat.le_of_ble_eq_true rfl) dX12_refused_2 (fun H locs hP hD hS => ?_)
  have hP : va_P g.1 vwCl [(h0, .inr (12, mO q (upd i 0 0) L))] H := hP
  have hD : va_D A [(h0, .inr (12, mO q (upd i 0 0) L))] := hD
  refine lv_iload_n hx hb dX12_refused_5 rfl (lv_at hl 1 rfl) ?_
  exact retI C hS () rfl (hP.pick [0] rfl) (hD.sub [0] rfl rfl) (Nat.le_of_ble_eq_true rfl) (Nat.le_of_ble_eq_true rfl) dX12_refused_6
theorem hg_X12_failed_X12 : ∀ w ∈ wsX120, w ∈ wsX12_failed := fun w h => List.mem_cons_of_mem _ (List.mem_append_right _ h)
set_option maxRecDepth 100000 in
set_option maxHeartbeats 4000000 in
theorem g_failed (l : Launch) (g : Gt) (h0 : Nat) (q : Nat → Nat) (i : Nat → Int32) (L : Nat → Int64) (f : Int32)  : Ctr l g yX12_failed wsX12_failed ({ frames := 0, cells := 0, slots := 0, locals := 0 } : Room) [.ref h0, .int f] [(h0, .inr (12, mO q i L))] (fun A => QI g A (fun r (_ : Unit) => r = ((-10) - f)) (fun _u : Unit => [(h0, .inr (12, mO q (upd i 0 f) L))])) := by
  refine Ctr.of (cc := cX12_failed) (maxL := 2) (ret := (some .int)) (by decide) rfl (Nat.le_of_ble_eq_true rfl) ?_
  intro p e s m below meth c A ls H C hP hD hA hS hl
  obtain ⟨hx, hb, hr, hts, hown, hlocks, hml, hin, hKN⟩ := id C
  have hK := hKN.1
  have hN := hKN.2
  have F : CallFix p m c cX12_failed 2 s _ wsX12_failed yX12_failed.cls := ⟨hx, hb, hml, hown, hts⟩
  have hl : lv_has ls 2 [(0, .ref h0), (1, .int f)] := hl
  refine lv_aload_n hx hb dX12_failed_0 rfl (lv_at hl 0 rfl) ?_
  refine lv_iload_n hx hb dX12_failed_1 rfl (lv_at hl 1 rfl) ?_
  refine va_put (D := g.1) (ci := 12) (v := .int f) (ty := .int) (C := RX12) (T := TX12) (N := 66) hx hb hts hg_X12_failed_X12 tyX12 tyX12_ok nmX12 hown hK hP hD hS 0 rfl rfl 0 (by decide) (hts (.fieldLink RX12 141 "OilPushModel" "fault" "I") (List.mem_of_getElem? (i := 1) rfl)) (fun _ h => h) rfl (by decide +kernel) rfl rfl (Nat.le_of_ble_eq_true rfl) dX12_failed_2 (fun H locs hP hD hS => ?_)
  have hP : va_P g.1 vwCl [(h0, .inr (12, mO q (upd i 0 f) L))] H := hP
  have hD : va_D A [(h0, .inr (12, mO q (upd i 0 f) L))] := hD
  refine lv_bipush (v := -10) hx hb dX12_failed_5 (by decide) ?_
  refine lv_iload_n hx hb dX12_failed_7 rfl (lv_at hl 1 rfl) ?_
  refine lv_isub hx hb dX12_failed_8 ?_
  exact retI C hS () rfl (hP.pick [0] rfl) (hD.sub [0] rfl rfl) (Nat.le_of_ble_eq_true rfl) (Nat.le_of_ble_eq_true rfl) dX12_failed_9
theorem hg_X12_failedLong_X12 : ∀ w ∈ wsX120, w ∈ wsX12_failedLong := fun w h => List.mem_cons_of_mem _ (List.mem_append_right _ h)
set_option maxRecDepth 100000 in
set_option maxHeartbeats 4000000 in
theorem g_failedLong (l : Launch) (g : Gt) (h0 : Nat) (q : Nat → Nat) (i : Nat → Int32) (L : Nat → Int64) (f : Int32)  : Ctr l g yX12_failedLong wsX12_failedLong ({ frames := 1, cells := 0, slots := 0, locals := 19 } : Room) [.ref h0, .int f] [(h0, .inr (12, mO q i L))] (fun A => QL g A (fun r (_ : Unit) => r = (-9223372036854775808)) (fun _u : Unit => [(h0, .inr (12, mO q (upd i 0 f) L))])) := by
  refine Ctr.of (cc := cX12_failedLong) (maxL := 2) (ret := (some .long)) (by decide) rfl (Nat.le_of_ble_eq_true rfl) ?_
  intro p e s m below meth c A ls H C hP hD hA hS hl
  obtain ⟨hx, hb, hr, hts, hown, hlocks, hml, hin, hKN⟩ := id C
  have hK := hKN.1
  have hN := hKN.2
  have F : CallFix p m c cX12_failedLong 2 s _ wsX12_failedLong yX12_failedLong.cls := ⟨hx, hb, hml, hown, hts⟩
  have hl : lv_has ls 2 [(0, .ref h0), (1, .int f)] := hl
  refine lv_aload_n hx hb dX12_failedLong_0 rfl (lv_at hl 0 rfl) ?_
  refine lv_iload_n hx hb dX12_failedLong_1 rfl (lv_at hl 1 rfl) ?_
  refine va_put (D := g.1) (ci := 12) (v := .int f) (ty := .int) (C := RX12) (T := TX12) (N := 66) hx hb hts hg_X12_failedLong_X12 tyX12 tyX12_ok nmX12 hown hK hP hD hS 0 rfl rfl 0 (by decide) (hts (.fieldLink RX12 141 "OilPushModel" "fault" "I") (List.mem_of_getElem? (i := 1) rfl)) (fun _ h => h) rfl (by decide +kernel) rfl rfl (Nat.le_of_ble_eq_true rfl) dX12_failedLong_2 (fun H locs hP hD hS => ?_)
  have hP : va_P g.1 vwCl [(h0, .inr (12, mO q (upd i 0 f) L))] H := hP
  have hD : va_D A [(h0, .inr (12, mO q (upd i 0 f) L))] := hD
  refine pureLS (As := []) (rest := []) F (c_lost l) 0 gX12_failedLong_X12_lost rfl (by decide +kernel) rfl rfl ⟨(Nat.le_of_ble_eq_true rfl), (Nat.le_of_ble_eq_true rfl)⟩ (Nat.le_of_ble_eq_true rfl) (Nat.le_of_ble_eq_true rfl) rfl hl.1 rfl (Nat.le_of_ble_eq_true rfl) dX12_failedLong_5 ?_
  exact retL C hS () rfl (hP.pick [0] rfl) (hD.sub [0] rfl rfl) (Nat.le_of_ble_eq_true rfl) (Nat.le_of_ble_eq_true rfl) dX12_failedLong_8
theorem hg_X12_noCylinder_X12 : ∀ w ∈ wsX120, w ∈ wsX12_noCylinder := fun w h => List.mem_cons_of_mem _ (List.mem_append_right _ h)
def r_g_noCylinder (i : Nat → Int32) (cy : Int32) : Int32 := (if (r_c_in (Int32.toInt64 cy) 0 ((Int32.toInt64 (i 7)) - 1)) = 0 then 1 else 0)
set_option maxRecDepth 100000 in
set_option maxHeartbeats 4000000 in
theorem g_noCylinder (l : Launch) (g : Gt) (h0 : Nat) (q : Nat → Nat) (i : Nat → Int32) (L : Nat → Int64) (cy : Int32)  : Ctr l g yX12_noCylinder wsX12_noCylinder ({ frames := 1, cells := 0, slots := 0, locals := 25 } : Room) [.ref h0, .int cy] [(h0, .inr (12, mO q i L))] (fun A => QI g A (fun r (_ : Unit) => r = (r_g_noCylinder i cy)) (fun _u : Unit => [(h0, .inr (12, mO q i L))])) := by
  refine Ctr.of (cc := cX12_noCylinder) (maxL := 2) (ret := (some .boolean)) (by decide) rfl (Nat.le_of_ble_eq_true rfl) ?_
  intro p e s m below meth c A ls H C hP hD hA hS hl
  obtain ⟨hx, hb, hr, hts, hown, hlocks, hml, hin, hKN⟩ := id C
  have hK := hKN.1
  have hN := hKN.2
  have F : CallFix p m c cX12_noCylinder 2 s _ wsX12_noCylinder yX12_noCylinder.cls := ⟨hx, hb, hml, hown, hts⟩
  have hl : lv_has ls 2 [(0, .ref h0), (1, .int cy)] := hl
  refine lv_iload_n hx hb dX12_noCylinder_0 rfl (lv_at hl 1 rfl) ?_
  refine lv_i2l hx hb dX12_noCylinder_1 rfl ?_
  refine lv_lconst (v := 0) hx hb dX12_noCylinder_2 (by decide) ?_
  refine lv_aload_n hx hb dX12_noCylinder_3 rfl (lv_at hl 0 rfl) ?_
  refine va_get (D := g.1) (ci := 12) (v := .int (i 7)) (C := RX12) (T := TX12) (N := 66) hx hb hts hg_X12_noCylinder_X12 hown hK hP 0 rfl rfl 7 (by decide) (hts (.fieldLink RX12 179 "OilPushModel" "cylinders" "I") (List.mem_of_getElem? (i := 1) rfl)) (fun _ h => h) rfl dX12_noCylinder_4 ?_
  refine lv_i2l hx hb dX12_noCylinder_7 rfl ?_
  refine lv_lconst (v := 1) hx hb dX12_noCylinder_8 (by decide) ?_
  refine lv_lsub hx hb dX12_noCylinder_9 ?_
  refine pureIS (As := [.long (Int32.toInt64 cy), .long 0, .long ((Int32.toInt64 (i 7)) - 1)]) (rest := []) F (c_in l (Int32.toInt64 cy) 0 ((Int32.toInt64 (i 7)) - 1)) 3 gX12_noCylinder_X12_in rfl (by decide +kernel) rfl rfl ⟨(Nat.le_of_ble_eq_true rfl), (Nat.le_of_ble_eq_true rfl)⟩ (Nat.le_of_ble_eq_true rfl) (Nat.le_of_ble_eq_true rfl) rfl hl.1 rfl (Nat.le_of_ble_eq_true rfl) dX12_noCylinder_10 ?_
  refine lv_if_ne (tgt := 20) hx hb dX12_noCylinder_13 (by decide) (fun c1 => ?_) (fun c1 => ?_)
  · refine lv_iconst (v := 0) hx hb dX12_noCylinder_20 (by decide) ?_
    exact retZ C rfl hS () (by unfold r_g_noCylinder; rw [if_neg c1]) (hP.pick [0] rfl) (hD.sub [0] rfl rfl) (Nat.le_of_ble_eq_true rfl) (Nat.le_of_ble_eq_true rfl) dX12_noCylinder_21
  refine lv_iconst (v := 1) hx hb dX12_noCylinder_16 (by decide) ?_
  refine lv_goto (tgt := 21) hx hb dX12_noCylinder_17 (by decide) ?_
  exact retZ C rfl hS () (by unfold r_g_noCylinder; rw [if_pos c1]) (hP.pick [0] rfl) (hD.sub [0] rfl rfl) (Nat.le_of_ble_eq_true rfl) (Nat.le_of_ble_eq_true rfl) dX12_noCylinder_21
theorem hg_X12_noCell_X12 : ∀ w ∈ wsX120, w ∈ wsX12_noCell := fun w h => List.mem_cons_of_mem _ (List.mem_append_right _ h)
def r_g_noCell (a1 : Nat → Int32) (k : Int32) (ii : Int32) : Int32 := (if 0 ≤ (a1 (k.toNatClampNeg)) then (if (r_c_in (Int32.toInt64 ii) 0 ((Int32.toInt64 (a1 (k.toNatClampNeg))) - 1)) = 0 then 3 else 0) else 1)
set_option maxRecDepth 100000 in
set_option maxHeartbeats 4000000 in
theorem g_noCell (l : Launch) (g : Gt) (h0 : Nat) (q : Nat → Nat) (i : Nat → Int32) (L : Nat → Int64) (a1 : Nat → Int32) (k : Int32) (ii : Int32) (hk : vp_in k 4) : Ctr l g yX12_noCell wsX12_noCell ({ frames := 1, cells := 0, slots := 0, locals := 25 } : Room) [.ref h0, .int k, .int ii] [(h0, .inr (12, mO q i L)), ((q 1), .inl (g.2 0, 4, .inl a1))] (fun A => QI g A (fun r (_ : Unit) => r = (r_g_noCell a1 k ii)) (fun _u : Unit => [(h0, .inr (12, mO q i L)), ((q 1), .inl (g.2 0, 4, .inl a1))])) := by
  refine Ctr.of (cc := cX12_noCell) (maxL := 3) (ret := (some .int)) (by decide) rfl (Nat.le_of_ble_eq_true rfl) ?_
  intro p e s m below meth c A ls H C hP hD hA hS hl
  obtain ⟨hx, hb, hr, hts, hown, hlocks, hml, hin, hKN⟩ := id C
  have hK := hKN.1
  have hN := hKN.2
  have F : CallFix p m c cX12_noCell 3 s _ wsX12_noCell yX12_noCell.cls := ⟨hx, hb, hml, hown, hts⟩
  have hl : lv_has ls 3 [(0, .ref h0), (1, .int k), (2, .int ii)] := hl
  refine lv_aload_n hx hb dX12_noCell_0 rfl (lv_at hl 0 rfl) ?_
  refine va_get (D := g.1) (ci := 12) (v := .ref (q 1)) (C := RX12) (T := TX12) (N := 66) hx hb hts hg_X12_noCell_X12 hown hK hP 0 rfl rfl 1 (by decide) (hts (.fieldLink RX12 7 "OilPushModel" "sheetSize" "[I") (List.mem_of_getElem? (i := 1) rfl)) (fun _ h => h) rfl dX12_noCell_1 ?_
  refine lv_iload_n hx hb dX12_noCell_4 rfl (lv_at hl 1 rfl) ?_
  refine va_iald hx hb hK hP 1 0 rfl rfl hk dX12_noCell_5 ?_
  refine lv_if_ge (tgt := 13) hx hb dX12_noCell_6 (by decide) (fun c1 => ?_) (fun c1 => ?_)
  · refine lv_iload_n hx hb dX12_noCell_13 rfl (lv_at hl 2 rfl) ?_
    refine lv_i2l hx hb dX12_noCell_14 rfl ?_
    refine lv_lconst (v := 0) hx hb dX12_noCell_15 (by decide) ?_
    refine lv_aload_n hx hb dX12_noCell_16 rfl (lv_at hl 0 rfl) ?_
    refine va_get (D := g.1) (ci := 12) (v := .ref (q 1)) (C := RX12) (T := TX12) (N := 66) hx hb hts hg_X12_noCell_X12 hown hK hP 0 rfl rfl 1 (by decide) (hts (.fieldLink RX12 7 "OilPushModel" "sheetSize" "[I") (List.mem_of_getElem? (i := 1) rfl)) (fun _ h => h) rfl dX12_noCell_17 ?_
    refine lv_iload_n hx hb dX12_noCell_20 rfl (lv_at hl 1 rfl) ?_
    refine va_iald hx hb hK hP 1 0 rfl rfl hk dX12_noCell_21 ?_
    refine lv_i2l hx hb dX12_noCell_22 rfl ?_
    refine lv_lconst (v := 1) hx hb dX12_noCell_23 (by decide) ?_
    refine lv_lsub hx hb dX12_noCell_24 ?_
    refine pureIS (As := [.long (Int32.toInt64 ii), .long 0, .long ((Int32.toInt64 (a1 (k.toNatClampNeg))) - 1)]) (rest := []) F (c_in l (Int32.toInt64 ii) 0 ((Int32.toInt64 (a1 (k.toNatClampNeg))) - 1)) 3 gX12_noCell_X12_in rfl (by decide +kernel) rfl rfl ⟨(Nat.le_of_ble_eq_true rfl), (Nat.le_of_ble_eq_true rfl)⟩ (Nat.le_of_ble_eq_true rfl) (Nat.le_of_ble_eq_true rfl) rfl hl.1 rfl (Nat.le_of_ble_eq_true rfl) dX12_noCell_25 ?_
    refine lv_if_eq (tgt := 35) hx hb dX12_noCell_28 (by decide) (fun c2 => ?_) (fun c2 => ?_)
    · refine lv_iconst (v := 3) hx hb dX12_noCell_35 (by decide) ?_
      exact retI C hS () (by unfold r_g_noCell; rw [if_pos c1, if_pos c2]) (hP.pick [0, 1] rfl) (hD.sub [0, 1] rfl rfl) (Nat.le_of_ble_eq_true rfl) (Nat.le_of_ble_eq_true rfl) dX12_noCell_36
    refine lv_iconst (v := 0) hx hb dX12_noCell_31 (by decide) ?_
    refine lv_goto (tgt := 36) hx hb dX12_noCell_32 (by decide) ?_
    exact retI C hS () (by unfold r_g_noCell; rw [if_pos c1, if_neg c2]) (hP.pick [0, 1] rfl) (hD.sub [0, 1] rfl rfl) (Nat.le_of_ble_eq_true rfl) (Nat.le_of_ble_eq_true rfl) dX12_noCell_36
  refine lv_iconst (v := 1) hx hb dX12_noCell_9 (by decide) ?_
  refine lv_goto (tgt := 36) hx hb dX12_noCell_10 (by decide) ?_
  exact retI C hS () (by unfold r_g_noCell; rw [if_neg c1]) (hP.pick [0, 1] rfl) (hD.sub [0, 1] rfl rfl) (Nat.le_of_ble_eq_true rfl) (Nat.le_of_ble_eq_true rfl) dX12_noCell_36
theorem hg_X12_room_X12 : ∀ w ∈ wsX120, w ∈ wsX12_room := fun w h => List.mem_cons_of_mem _ (List.mem_append_right _ h)
set_option maxRecDepth 100000 in
set_option maxHeartbeats 4000000 in
theorem g_room (l : Launch) (g : Gt) (h0 : Nat) (q : Nat → Nat) (i : Nat → Int32) (L : Nat → Int64) (a9 : Nat → Int32) (a10 : Nat → Int32) (cy : Int32) (hc : vp_in cy 6) : Ctr l g yX12_room wsX12_room ({ frames := 0, cells := 0, slots := 0, locals := 0 } : Room) [.ref h0, .int cy] [(h0, .inr (12, mO q i L)), ((q 9), .inl (g.2 0, 6, .inl a9)), ((q 10), .inl (g.2 0, 6, .inl a10))] (fun A => QI g A (fun r (_ : Unit) => r = ((a9 (cy.toNatClampNeg)) * (a10 (cy.toNatClampNeg)))) (fun _u : Unit => [(h0, .inr (12, mO q i L)), ((q 9), .inl (g.2 0, 6, .inl a9)), ((q 10), .inl (g.2 0, 6, .inl a10))])) := by
  refine Ctr.of (cc := cX12_room) (maxL := 2) (ret := (some .int)) (by decide) rfl (Nat.le_of_ble_eq_true rfl) ?_
  intro p e s m below meth c A ls H C hP hD hA hS hl
  obtain ⟨hx, hb, hr, hts, hown, hlocks, hml, hin, hKN⟩ := id C
  have hK := hKN.1
  have hN := hKN.2
  have F : CallFix p m c cX12_room 2 s _ wsX12_room yX12_room.cls := ⟨hx, hb, hml, hown, hts⟩
  have hl : lv_has ls 2 [(0, .ref h0), (1, .int cy)] := hl
  refine lv_aload_n hx hb dX12_room_0 rfl (lv_at hl 0 rfl) ?_
  refine va_get (D := g.1) (ci := 12) (v := .ref (q 9)) (C := RX12) (T := TX12) (N := 66) hx hb hts hg_X12_room_X12 hown hK hP 0 rfl rfl 9 (by decide) (hts (.fieldLink RX12 25 "OilPushModel" "area" "[I") (List.mem_of_getElem? (i := 1) rfl)) (fun _ h => h) rfl dX12_room_1 ?_
  refine lv_iload_n hx hb dX12_room_4 rfl (lv_at hl 1 rfl) ?_
  refine va_iald hx hb hK hP 1 0 rfl rfl hc dX12_room_5 ?_
  refine lv_aload_n hx hb dX12_room_6 rfl (lv_at hl 0 rfl) ?_
  refine va_get (D := g.1) (ci := 12) (v := .ref (q 10)) (C := RX12) (T := TX12) (N := 66) hx hb hts hg_X12_room_X12 hown hK hP 0 rfl rfl 10 (by decide) (hts (.fieldLink RX12 28 "OilPushModel" "stroke" "[I") (List.mem_of_getElem? (i := 2) rfl)) (fun _ h => h) rfl dX12_room_7 ?_
  refine lv_iload_n hx hb dX12_room_10 rfl (lv_at hl 1 rfl) ?_
  refine va_iald hx hb hK hP 2 0 rfl rfl hc dX12_room_11 ?_
  refine lv_imul hx hb dX12_room_12 ?_
  exact retI C hS () rfl (hP.pick [0, 1, 2] rfl) (hD.sub [0, 1, 2] rfl rfl) (Nat.le_of_ble_eq_true rfl) (Nat.le_of_ble_eq_true rfl) dX12_room_13
theorem hg_X12_traced_X12 : ∀ w ∈ wsX120, w ∈ wsX12_traced := fun w h => List.mem_cons_of_mem _ (List.mem_append_right _ h)
set_option maxRecDepth 100000 in
set_option maxHeartbeats 4000000 in
theorem g_traced (l : Launch) (g : Gt) (h0 : Nat) (q : Nat → Nat) (i : Nat → Int32) (L : Nat → Int64) (n : Int32)  : Ctr l g yX12_traced wsX12_traced ({ frames := 0, cells := 0, slots := 0, locals := 0 } : Room) [.ref h0, .int n] [(h0, .inr (12, mO q i L))] (fun A => QV g A (fun _ : Unit => () = ()) (fun _u : Unit => [(h0, .inr (12, mO q (upd i 65 ((31 * (i 65)) + n)) L))])) := by
  refine Ctr.of (cc := cX12_traced) (maxL := 2) (ret := none) (by decide) rfl (Nat.le_of_ble_eq_true rfl) ?_
  intro p e s m below meth c A ls H C hP hD hA hS hl
  obtain ⟨hx, hb, hr, hts, hown, hlocks, hml, hin, hKN⟩ := id C
  have hK := hKN.1
  have hN := hKN.2
  have F : CallFix p m c cX12_traced 2 s _ wsX12_traced yX12_traced.cls := ⟨hx, hb, hml, hown, hts⟩
  have hl : lv_has ls 2 [(0, .ref h0), (1, .int n)] := hl
  refine lv_aload_n hx hb dX12_traced_0 rfl (lv_at hl 0 rfl) ?_
  refine lv_bipush (v := 31) hx hb dX12_traced_1 (by decide) ?_
  refine lv_aload_n hx hb dX12_traced_3 rfl (lv_at hl 0 rfl) ?_
  refine va_get (D := g.1) (ci := 12) (v := .int (i 65)) (C := RX12) (T := TX12) (N := 66) hx hb hts hg_X12_traced_X12 hown hK hP 0 rfl rfl 65 (by decide) (hts (.fieldLink RX12 313 "OilPushModel" "trace" "I") (List.mem_of_getElem? (i := 1) rfl)) (fun _ h => h) rfl dX12_traced_4 ?_
  refine lv_imul hx hb dX12_traced_7 ?_
  refine lv_iload_n hx hb dX12_traced_8 rfl (lv_at hl 1 rfl) ?_
  refine lv_iadd hx hb dX12_traced_9 ?_
  refine va_put (D := g.1) (ci := 12) (v := .int ((31 * (i 65)) + n)) (ty := .int) (C := RX12) (T := TX12) (N := 66) hx hb hts hg_X12_traced_X12 tyX12 tyX12_ok nmX12 hown hK hP hD hS 0 rfl rfl 65 (by decide) (hts (.fieldLink RX12 313 "OilPushModel" "trace" "I") (List.mem_of_getElem? (i := 1) rfl)) (fun _ h => h) rfl (by decide +kernel) rfl rfl (Nat.le_of_ble_eq_true rfl) dX12_traced_10 (fun H locs hP hD hS => ?_)
  have hP : va_P g.1 vwCl [(h0, .inr (12, mO q (upd i 65 ((31 * (i 65)) + n)) L))] H := hP
  have hD : va_D A [(h0, .inr (12, mO q (upd i 65 ((31 * (i 65)) + n)) L))] := hD
  exact retV C hS () rfl (hP.pick [0] rfl) (hD.sub [0] rfl rfl) (Nat.le_of_ble_eq_true rfl) (Nat.le_of_ble_eq_true rfl) dX12_traced_13
theorem hg_X12_loseFrom_X12 : ∀ w ∈ wsX120, w ∈ wsX12_loseFrom := fun w h => List.mem_cons_of_mem _ (List.mem_append_right _ h)
def o_g_loseFrom_q11 (a11 : Nat → Int32) (cy : Int32) (n : Int32) : Nat → Int32 := (upd a11 (cy.toNatClampNeg) ((a11 (cy.toNatClampNeg)) - (r_c_lesser n (a11 (cy.toNatClampNeg)))))
set_option maxRecDepth 100000 in
set_option maxHeartbeats 4000000 in
theorem g_loseFrom (l : Launch) (g : Gt) (h0 : Nat) (q : Nat → Nat) (i : Nat → Int32) (L : Nat → Int64) (a11 : Nat → Int32) (a19 : Nat → Int32) (cy : Int32) (n : Int32) (hc : vp_in cy 6) : Ctr l g yX12_loseFrom wsX12_loseFrom ({ frames := 1, cells := 0, slots := 0, locals := 21 } : Room) [.ref h0, .int cy, .int n] [(h0, .inr (12, mO q i L)), ((q 11), .inl (g.2 0, 6, .inl a11)), ((q 19), .inl (g.2 0, 6, .inl a19))] (fun A => QV g A (fun _ : Unit => () = ()) (fun _u : Unit => [(h0, .inr (12, mO q i L)), ((q 11), .inl (g.2 0, 6, .inl (o_g_loseFrom_q11 a11 cy n))), ((q 19), .inl (g.2 0, 6, .inl (upd a19 (cy.toNatClampNeg) (-(r_c_lesser n (a11 (cy.toNatClampNeg)))))))])) := by
  refine Ctr.of (cc := cX12_loseFrom) (maxL := 4) (ret := none) (by decide) rfl (Nat.le_of_ble_eq_true rfl) ?_
  intro p e s m below meth c A ls H C hP hD hA hS hl
  obtain ⟨hx, hb, hr, hts, hown, hlocks, hml, hin, hKN⟩ := id C
  have hK := hKN.1
  have hN := hKN.2
  have F : CallFix p m c cX12_loseFrom 4 s _ wsX12_loseFrom yX12_loseFrom.cls := ⟨hx, hb, hml, hown, hts⟩
  have hl : lv_has ls 4 [(0, .ref h0), (1, .int cy), (2, .int n)] := hl
  refine lv_iload_n hx hb dX12_loseFrom_0 rfl (lv_at hl 2 rfl) ?_
  refine lv_aload_n hx hb dX12_loseFrom_1 rfl (lv_at hl 0 rfl) ?_
  refine va_get (D := g.1) (ci := 12) (v := .ref (q 11)) (C := RX12) (T := TX12) (N := 66) hx hb hts hg_X12_loseFrom_X12 hown hK hP 0 rfl rfl 11 (by decide) (hts (.fieldLink RX12 31 "OilPushModel" "oil" "[I") (List.mem_of_getElem? (i := 1) rfl)) (fun _ h => h) rfl dX12_loseFrom_2 ?_
  refine lv_iload_n hx hb dX12_loseFrom_5 rfl (lv_at hl 1 rfl) ?_
  refine va_iald hx hb hK hP 1 0 rfl rfl hc dX12_loseFrom_6 ?_
  refine pureIS (As := [.int n, .int (a11 (cy.toNatClampNeg))]) (rest := []) F (c_lesser l n (a11 (cy.toNatClampNeg))) 2 gX12_loseFrom_X12_lesser rfl (by decide +kernel) rfl rfl ⟨(Nat.le_of_ble_eq_true rfl), (Nat.le_of_ble_eq_true rfl)⟩ (Nat.le_of_ble_eq_true rfl) (Nat.le_of_ble_eq_true rfl) rfl hl.1 rfl (Nat.le_of_ble_eq_true rfl) dX12_loseFrom_7 ?_
  refine lv_istore_n (lv' := [(3, .int (r_c_lesser n (a11 (cy.toNatClampNeg)))), (0, .ref h0), (1, .int cy), (2, .int n)]) hx hb dX12_loseFrom_10 rfl hl (by decide) rfl (fun ls hl => ?_)
  refine lv_aload_n hx hb dX12_loseFrom_11 rfl (lv_at hl 1 rfl) ?_
  refine va_get (D := g.1) (ci := 12) (v := .ref (q 11)) (C := RX12) (T := TX12) (N := 66) hx hb hts hg_X12_loseFrom_X12 hown hK hP 0 rfl rfl 11 (by decide) (hts (.fieldLink RX12 31 "OilPushModel" "oil" "[I") (List.mem_of_getElem? (i := 1) rfl)) (fun _ h => h) rfl dX12_loseFrom_12 ?_
  refine lv_iload_n hx hb dX12_loseFrom_15 rfl (lv_at hl 2 rfl) ?_
  refine lv_dup2_11 hx hb dX12_loseFrom_16 rfl rfl ?_
  refine va_iald hx hb hK hP 1 0 rfl rfl hc dX12_loseFrom_17 ?_
  refine lv_iload_n hx hb dX12_loseFrom_18 rfl (lv_at hl 0 rfl) ?_
  refine lv_isub hx hb dX12_loseFrom_19 ?_
  refine va_iast hx hb hK hP hD hS 1 0 rfl rfl hc dX12_loseFrom_20 (fun H locs hP hD hS => ?_)
  have hP : va_P g.1 vwCl [(h0, .inr (12, mO q i L)), ((q 11), .inl (g.2 0, 6, .inl (upd a11 (cy.toNatClampNeg) ((a11 (cy.toNatClampNeg)) - (r_c_lesser n (a11 (cy.toNatClampNeg))))))), ((q 19), .inl (g.2 0, 6, .inl a19))] H := hP
  have hD : va_D A [(h0, .inr (12, mO q i L)), ((q 11), .inl (g.2 0, 6, .inl (upd a11 (cy.toNatClampNeg) ((a11 (cy.toNatClampNeg)) - (r_c_lesser n (a11 (cy.toNatClampNeg))))))), ((q 19), .inl (g.2 0, 6, .inl a19))] := hD
  refine lv_aload_n hx hb dX12_loseFrom_21 rfl (lv_at hl 1 rfl) ?_
  refine va_get (D := g.1) (ci := 12) (v := .ref (q 19)) (C := RX12) (T := TX12) (N := 66) hx hb hts hg_X12_loseFrom_X12 hown hK hP 0 rfl rfl 19 (by decide) (hts (.fieldLink RX12 56 "OilPushModel" "took" "[I") (List.mem_of_getElem? (i := 2) rfl)) (fun _ h => h) rfl dX12_loseFrom_22 ?_
  refine lv_iload_n hx hb dX12_loseFrom_25 rfl (lv_at hl 2 rfl) ?_
  refine lv_iload_n hx hb dX12_loseFrom_26 rfl (lv_at hl 0 rfl) ?_
  refine lv_ineg hx hb dX12_loseFrom_27 ?_
  refine va_iast hx hb hK hP hD hS 2 0 rfl rfl hc dX12_loseFrom_28 (fun H locs hP hD hS => ?_)
  have hP : va_P g.1 vwCl [(h0, .inr (12, mO q i L)), ((q 11), .inl (g.2 0, 6, .inl (upd a11 (cy.toNatClampNeg) ((a11 (cy.toNatClampNeg)) - (r_c_lesser n (a11 (cy.toNatClampNeg))))))), ((q 19), .inl (g.2 0, 6, .inl (upd a19 (cy.toNatClampNeg) (-(r_c_lesser n (a11 (cy.toNatClampNeg)))))))] H := hP
  have hD : va_D A [(h0, .inr (12, mO q i L)), ((q 11), .inl (g.2 0, 6, .inl (upd a11 (cy.toNatClampNeg) ((a11 (cy.toNatClampNeg)) - (r_c_lesser n (a11 (cy.toNatClampNeg))))))), ((q 19), .inl (g.2 0, 6, .inl (upd a19 (cy.toNatClampNeg) (-(r_c_lesser n (a11 (cy.toNatClampNeg)))))))] := hD
  have hP : va_P g.1 vwCl [(h0, .inr (12, mO q i L)), ((q 11), .inl (g.2 0, 6, .inl (o_g_loseFrom_q11 a11 cy n))), ((q 19), .inl (g.2 0, 6, .inl (upd a19 (cy.toNatClampNeg) (-(r_c_lesser n (a11 (cy.toNatClampNeg)))))))] H := by exact hP
  have hD : va_D A [(h0, .inr (12, mO q i L)), ((q 11), .inl (g.2 0, 6, .inl (o_g_loseFrom_q11 a11 cy n))), ((q 19), .inl (g.2 0, 6, .inl (upd a19 (cy.toNatClampNeg) (-(r_c_lesser n (a11 (cy.toNatClampNeg)))))))] := by exact hD
  exact retV C hS () rfl (hP.pick [0, 1, 2] rfl) (hD.sub [0, 1, 2] rfl rfl) (Nat.le_of_ble_eq_true rfl) (Nat.le_of_ble_eq_true rfl) dX12_loseFrom_29
theorem hg_X12_pump_X12 : ∀ w ∈ wsX120, w ∈ wsX12_pump := fun w h => List.mem_cons_of_mem _ (List.mem_append_right _ h)
def r_g_pump (i : Nat → Int32) (what : Int32) (v : Int32) : Int32 := (if (r_c_in (Int32.toInt64 what) 0 1) = 0 then (-1) else (if (r_c_in (Int32.toInt64 v) (Int32.toInt64 what) 1000) = 0 then (-2) else (if what = 0 then (if what = 1 then (i 5) else (i 5)) else (if what = 1 then (i 6) else (i 6)))))
def o_g_pump_5 (i : Nat → Int32) (what : Int32) (v : Int32) : Int32 := (if (r_c_in (Int32.toInt64 what) 0 1) = 0 then (i 5) else (if (r_c_in (Int32.toInt64 v) (Int32.toInt64 what) 1000) = 0 then (i 5) else (if what = 0 then (if what = 1 then v else v) else (if what = 1 then (i 5) else (i 5)))))
def o_g_pump_6 (i : Nat → Int32) (what : Int32) (v : Int32) : Int32 := (if (r_c_in (Int32.toInt64 what) 0 1) = 0 then (i 6) else (if (r_c_in (Int32.toInt64 v) (Int32.toInt64 what) 1000) = 0 then (i 6) else (if what = 0 then (if what = 1 then v else (i 6)) else (if what = 1 then v else (i 6)))))
set_option maxRecDepth 100000 in
set_option maxHeartbeats 4000000 in
theorem g_pump (l : Launch) (g : Gt) (h0 : Nat) (q : Nat → Nat) (i : Nat → Int32) (L : Nat → Int64) (what : Int32) (v : Int32)  : Ctr l g yX12_pump wsX12_pump ({ frames := 1, cells := 0, slots := 0, locals := 25 } : Room) [.ref h0, .int what, .int v] [(h0, .inr (12, mO q i L))] (fun A => QI g A (fun r (_ : Unit) => r = (r_g_pump i what v)) (fun _u : Unit => [(h0, .inr (12, mO q (upd (upd i 5 (o_g_pump_5 i what v)) 6 (o_g_pump_6 i what v)) L))])) := by
  refine Ctr.of (cc := cX12_pump) (maxL := 4) (ret := (some .int)) (by decide) rfl (Nat.le_of_ble_eq_true rfl) ?_
  intro p e s m below meth c A ls H C hP hD hA hS hl
  obtain ⟨hx, hb, hr, hts, hown, hlocks, hml, hin, hKN⟩ := id C
  have hK := hKN.1
  have hN := hKN.2
  have F : CallFix p m c cX12_pump 4 s _ wsX12_pump yX12_pump.cls := ⟨hx, hb, hml, hown, hts⟩
  have hl : lv_has ls 4 [(0, .ref h0), (1, .int what), (2, .int v)] := hl
  refine lv_iload_n hx hb dX12_pump_0 rfl (lv_at hl 1 rfl) ?_
  refine lv_i2l hx hb dX12_pump_1 rfl ?_
  refine lv_lconst (v := 0) hx hb dX12_pump_2 (by decide) ?_
  refine lv_lconst (v := 1) hx hb dX12_pump_3 (by decide) ?_
  refine pureIS (As := [.long (Int32.toInt64 what), .long 0, .long 1]) (rest := []) F (c_in l (Int32.toInt64 what) 0 1) 3 gX12_pump_X12_in rfl (by decide +kernel) rfl rfl ⟨(Nat.le_of_ble_eq_true rfl), (Nat.le_of_ble_eq_true rfl)⟩ (Nat.le_of_ble_eq_true rfl) (Nat.le_of_ble_eq_true rfl) rfl hl.1 rfl (Nat.le_of_ble_eq_true rfl) dX12_pump_4 ?_
  refine lv_if_ne (tgt := 12) hx hb dX12_pump_7 (by decide) (fun c1 => ?_) (fun c1 => ?_)
  · refine lv_iload_n hx hb dX12_pump_12 rfl (lv_at hl 2 rfl) ?_
    refine lv_i2l hx hb dX12_pump_13 rfl ?_
    refine lv_iload_n hx hb dX12_pump_14 rfl (lv_at hl 1 rfl) ?_
    refine lv_i2l hx hb dX12_pump_15 rfl ?_
    refine lv_ldc2 (v := 1000) hx hb hown (hts (.constantLong RX12 182 (1000)) (List.mem_of_getElem? (i := 1) rfl)) dX12_pump_16 ?_
    refine pureIS (As := [.long (Int32.toInt64 v), .long (Int32.toInt64 what), .long 1000]) (rest := []) F (c_in l (Int32.toInt64 v) (Int32.toInt64 what) 1000) 3 gX12_pump_X12_in rfl (by decide +kernel) rfl rfl ⟨(Nat.le_of_ble_eq_true rfl), (Nat.le_of_ble_eq_true rfl)⟩ (Nat.le_of_ble_eq_true rfl) (Nat.le_of_ble_eq_true rfl) rfl hl.1 rfl (Nat.le_of_ble_eq_true rfl) dX12_pump_19 ?_
    refine lv_if_ne (tgt := 28) hx hb dX12_pump_22 (by decide) (fun c2 => ?_) (fun c2 => ?_)
    · refine lv_iload_n hx hb dX12_pump_28 rfl (lv_at hl 1 rfl) ?_
      refine lv_if_ne (tgt := 39) hx hb dX12_pump_29 (by decide) (fun c3 => ?_) (fun c3 => ?_)
      · refine lv_aload_n hx hb dX12_pump_39 rfl (lv_at hl 0 rfl) ?_
        refine va_get (D := g.1) (ci := 12) (v := .int (i 6)) (C := RX12) (T := TX12) (N := 66) hx hb hts hg_X12_pump_X12 hown hK hP 0 rfl rfl 6 (by decide) (hts (.fieldLink RX12 129 "OilPushModel" "limit" "I") (List.mem_of_getElem? (i := 3) rfl)) (fun _ h => h) rfl dX12_pump_40 ?_
        refine lv_istore_n (lv' := [(3, .int (i 6)), (0, .ref h0), (1, .int what), (2, .int v)]) hx hb dX12_pump_43 rfl hl (by decide) rfl (fun ls hl => ?_)
        refine lv_aload_n hx hb dX12_pump_44 rfl (lv_at hl 1 rfl) ?_
        refine lv_iload_n hx hb dX12_pump_45 rfl (lv_at hl 2 rfl) ?_
        refine lv_if_ne (tgt := 53) hx hb dX12_pump_46 (by decide) (fun _ => ?_) (fun cc0 => absurd cc0 c3)
        refine lv_aload_n hx hb dX12_pump_53 rfl (lv_at hl 1 rfl) ?_
        refine va_get (D := g.1) (ci := 12) (v := .int (i 5)) (C := RX12) (T := TX12) (N := 66) hx hb hts hg_X12_pump_X12 hown hK hP 0 rfl rfl 5 (by decide) (hts (.fieldLink RX12 184 "OilPushModel" "gives" "I") (List.mem_of_getElem? (i := 2) rfl)) (fun _ h => h) rfl dX12_pump_54 ?_
        refine va_put (D := g.1) (ci := 12) (v := .int (i 5)) (ty := .int) (C := RX12) (T := TX12) (N := 66) hx hb hts hg_X12_pump_X12 tyX12 tyX12_ok nmX12 hown hK hP hD hS 0 rfl rfl 5 (by decide) (hts (.fieldLink RX12 184 "OilPushModel" "gives" "I") (List.mem_of_getElem? (i := 2) rfl)) (fun _ h => h) rfl (by decide +kernel) rfl rfl (Nat.le_of_ble_eq_true rfl) dX12_pump_57 (fun H locs hP hD hS => ?_)
        have hP : va_P g.1 vwCl [(h0, .inr (12, mO q i L))] H := hP
        have hD : va_D A [(h0, .inr (12, mO q i L))] := hD
        refine lv_aload_n hx hb dX12_pump_60 rfl (lv_at hl 1 rfl) ?_
        refine lv_iload_n hx hb dX12_pump_61 rfl (lv_at hl 2 rfl) ?_
        refine lv_iconst (v := 1) hx hb dX12_pump_62 (by decide) ?_
        refine lv_icmp_ne (tgt := 70) hx hb dX12_pump_63 (by decide) (fun c4 => ?_) (fun c4 => ?_)
        · refine lv_aload_n hx hb dX12_pump_70 rfl (lv_at hl 1 rfl) ?_
          refine va_get (D := g.1) (ci := 12) (v := .int (i 6)) (C := RX12) (T := TX12) (N := 66) hx hb hts hg_X12_pump_X12 hown hK hP 0 rfl rfl 6 (by decide) (hts (.fieldLink RX12 129 "OilPushModel" "limit" "I") (List.mem_of_getElem? (i := 3) rfl)) (fun _ h => h) rfl dX12_pump_71 ?_
          refine va_put (D := g.1) (ci := 12) (v := .int (i 6)) (ty := .int) (C := RX12) (T := TX12) (N := 66) hx hb hts hg_X12_pump_X12 tyX12 tyX12_ok nmX12 hown hK hP hD hS 0 rfl rfl 6 (by decide) (hts (.fieldLink RX12 129 "OilPushModel" "limit" "I") (List.mem_of_getElem? (i := 3) rfl)) (fun _ h => h) rfl (by decide +kernel) rfl rfl (Nat.le_of_ble_eq_true rfl) dX12_pump_74 (fun H locs hP hD hS => ?_)
          have hP : va_P g.1 vwCl [(h0, .inr (12, mO q i L))] H := hP
          have hD : va_D A [(h0, .inr (12, mO q i L))] := hD
          refine lv_iload_n hx hb dX12_pump_77 rfl (lv_at hl 0 rfl) ?_
          have e90 : (o_g_pump_5 i what v) = (i 5) := by unfold o_g_pump_5; rw [if_neg c1, if_neg c2, if_neg c3, if_neg c4]
          have e91 : (o_g_pump_6 i what v) = (i 6) := by unfold o_g_pump_6; rw [if_neg c1, if_neg c2, if_neg c3, if_neg c4]
          have hP : va_P g.1 vwCl [(h0, .inr (12, mO q (upd (upd i 5 (o_g_pump_5 i what v)) 6 (o_g_pump_6 i what v)) L))] H := by rw [e90, e91]; exact hP
          have hD : va_D A [(h0, .inr (12, mO q (upd (upd i 5 (o_g_pump_5 i what v)) 6 (o_g_pump_6 i what v)) L))] := by rw [e90, e91]; exact hD
          exact retI C hS () (by unfold r_g_pump; rw [if_neg c1, if_neg c2, if_neg c3, if_neg c4]) (hP.pick [0] rfl) (hD.sub [0] rfl rfl) (Nat.le_of_ble_eq_true rfl) (Nat.le_of_ble_eq_true rfl) dX12_pump_78
        refine lv_iload_n hx hb dX12_pump_66 rfl (lv_at hl 3 rfl) ?_
        refine lv_goto (tgt := 74) hx hb dX12_pump_67 (by decide) ?_
        refine va_put (D := g.1) (ci := 12) (v := .int v) (ty := .int) (C := RX12) (T := TX12) (N := 66) hx hb hts hg_X12_pump_X12 tyX12 tyX12_ok nmX12 hown hK hP hD hS 0 rfl rfl 6 (by decide) (hts (.fieldLink RX12 129 "OilPushModel" "limit" "I") (List.mem_of_getElem? (i := 3) rfl)) (fun _ h => h) rfl (by decide +kernel) rfl rfl (Nat.le_of_ble_eq_true rfl) dX12_pump_74 (fun H locs hP hD hS => ?_)
        have hP : va_P g.1 vwCl [(h0, .inr (12, mO q (upd i 6 v) L))] H := hP
        have hD : va_D A [(h0, .inr (12, mO q (upd i 6 v) L))] := hD
        refine lv_iload_n hx hb dX12_pump_77 rfl (lv_at hl 0 rfl) ?_
        have e90 : (o_g_pump_5 i what v) = (i 5) := by unfold o_g_pump_5; rw [if_neg c1, if_neg c2, if_neg c3, if_pos c4]
        have e91 : (o_g_pump_6 i what v) = v := by unfold o_g_pump_6; rw [if_neg c1, if_neg c2, if_neg c3, if_pos c4]
        have hP : va_P g.1 vwCl [(h0, .inr (12, mO q (upd (upd i 5 (o_g_pump_5 i what v)) 6 (o_g_pump_6 i what v)) L))] H := by rw [e90, e91]; exact hP
        have hD : va_D A [(h0, .inr (12, mO q (upd (upd i 5 (o_g_pump_5 i what v)) 6 (o_g_pump_6 i what v)) L))] := by rw [e90, e91]; exact hD
        exact retI C hS () (by unfold r_g_pump; rw [if_neg c1, if_neg c2, if_neg c3, if_pos c4]) (hP.pick [0] rfl) (hD.sub [0] rfl rfl) (Nat.le_of_ble_eq_true rfl) (Nat.le_of_ble_eq_true rfl) dX12_pump_78
      refine lv_aload_n hx hb dX12_pump_32 rfl (lv_at hl 0 rfl) ?_
      refine va_get (D := g.1) (ci := 12) (v := .int (i 5)) (C := RX12) (T := TX12) (N := 66) hx hb hts hg_X12_pump_X12 hown hK hP 0 rfl rfl 5 (by decide) (hts (.fieldLink RX12 184 "OilPushModel" "gives" "I") (List.mem_of_getElem? (i := 2) rfl)) (fun _ h => h) rfl dX12_pump_33 ?_
      refine lv_goto (tgt := 43) hx hb dX12_pump_36 (by decide) ?_
      refine lv_istore_n (lv' := [(3, .int (i 5)), (0, .ref h0), (1, .int what), (2, .int v)]) hx hb dX12_pump_43 rfl hl (by decide) rfl (fun ls hl => ?_)
      refine lv_aload_n hx hb dX12_pump_44 rfl (lv_at hl 1 rfl) ?_
      refine lv_iload_n hx hb dX12_pump_45 rfl (lv_at hl 2 rfl) ?_
      refine lv_if_ne (tgt := 53) hx hb dX12_pump_46 (by decide) (fun cc0 => absurd c3 cc0) (fun _ => ?_)
      refine lv_iload_n hx hb dX12_pump_49 rfl (lv_at hl 3 rfl) ?_
      refine lv_goto (tgt := 57) hx hb dX12_pump_50 (by decide) ?_
      refine va_put (D := g.1) (ci := 12) (v := .int v) (ty := .int) (C := RX12) (T := TX12) (N := 66) hx hb hts hg_X12_pump_X12 tyX12 tyX12_ok nmX12 hown hK hP hD hS 0 rfl rfl 5 (by decide) (hts (.fieldLink RX12 184 "OilPushModel" "gives" "I") (List.mem_of_getElem? (i := 2) rfl)) (fun _ h => h) rfl (by decide +kernel) rfl rfl (Nat.le_of_ble_eq_true rfl) dX12_pump_57 (fun H locs hP hD hS => ?_)
      have hP : va_P g.1 vwCl [(h0, .inr (12, mO q (upd i 5 v) L))] H := hP
      have hD : va_D A [(h0, .inr (12, mO q (upd i 5 v) L))] := hD
      refine lv_aload_n hx hb dX12_pump_60 rfl (lv_at hl 1 rfl) ?_
      refine lv_iload_n hx hb dX12_pump_61 rfl (lv_at hl 2 rfl) ?_
      refine lv_iconst (v := 1) hx hb dX12_pump_62 (by decide) ?_
      refine lv_icmp_ne (tgt := 70) hx hb dX12_pump_63 (by decide) (fun c5 => ?_) (fun c5 => ?_)
      · refine lv_aload_n hx hb dX12_pump_70 rfl (lv_at hl 1 rfl) ?_
        refine va_get (D := g.1) (ci := 12) (v := .int (i 6)) (C := RX12) (T := TX12) (N := 66) hx hb hts hg_X12_pump_X12 hown hK hP 0 rfl rfl 6 (by decide) (hts (.fieldLink RX12 129 "OilPushModel" "limit" "I") (List.mem_of_getElem? (i := 3) rfl)) (fun _ h => h) rfl dX12_pump_71 ?_
        refine va_put (D := g.1) (ci := 12) (v := .int (i 6)) (ty := .int) (C := RX12) (T := TX12) (N := 66) hx hb hts hg_X12_pump_X12 tyX12 tyX12_ok nmX12 hown hK hP hD hS 0 rfl rfl 6 (by decide) (hts (.fieldLink RX12 129 "OilPushModel" "limit" "I") (List.mem_of_getElem? (i := 3) rfl)) (fun _ h => h) rfl (by decide +kernel) rfl rfl (Nat.le_of_ble_eq_true rfl) dX12_pump_74 (fun H locs hP hD hS => ?_)
        have hP : va_P g.1 vwCl [(h0, .inr (12, mO q (upd i 5 v) L))] H := hP
        have hD : va_D A [(h0, .inr (12, mO q (upd i 5 v) L))] := hD
        refine lv_iload_n hx hb dX12_pump_77 rfl (lv_at hl 0 rfl) ?_
        have e90 : (o_g_pump_5 i what v) = v := by unfold o_g_pump_5; rw [if_neg c1, if_neg c2, if_pos c3, if_neg c5]
        have e91 : (o_g_pump_6 i what v) = (i 6) := by unfold o_g_pump_6; rw [if_neg c1, if_neg c2, if_pos c3, if_neg c5]
        have hP : va_P g.1 vwCl [(h0, .inr (12, mO q (upd (upd i 5 (o_g_pump_5 i what v)) 6 (o_g_pump_6 i what v)) L))] H := by rw [e90, e91]; exact hP
        have hD : va_D A [(h0, .inr (12, mO q (upd (upd i 5 (o_g_pump_5 i what v)) 6 (o_g_pump_6 i what v)) L))] := by rw [e90, e91]; exact hD
        exact retI C hS () (by unfold r_g_pump; rw [if_neg c1, if_neg c2, if_pos c3, if_neg c5]) (hP.pick [0] rfl) (hD.sub [0] rfl rfl) (Nat.le_of_ble_eq_true rfl) (Nat.le_of_ble_eq_true rfl) dX12_pump_78
      refine lv_iload_n hx hb dX12_pump_66 rfl (lv_at hl 3 rfl) ?_
      refine lv_goto (tgt := 74) hx hb dX12_pump_67 (by decide) ?_
      refine va_put (D := g.1) (ci := 12) (v := .int v) (ty := .int) (C := RX12) (T := TX12) (N := 66) hx hb hts hg_X12_pump_X12 tyX12 tyX12_ok nmX12 hown hK hP hD hS 0 rfl rfl 6 (by decide) (hts (.fieldLink RX12 129 "OilPushModel" "limit" "I") (List.mem_of_getElem? (i := 3) rfl)) (fun _ h => h) rfl (by decide +kernel) rfl rfl (Nat.le_of_ble_eq_true rfl) dX12_pump_74 (fun H locs hP hD hS => ?_)
      have hP : va_P g.1 vwCl [(h0, .inr (12, mO q (upd (upd i 5 v) 6 v) L))] H := hP
      have hD : va_D A [(h0, .inr (12, mO q (upd (upd i 5 v) 6 v) L))] := hD
      refine lv_iload_n hx hb dX12_pump_77 rfl (lv_at hl 0 rfl) ?_
      have e90 : (o_g_pump_5 i what v) = v := by unfold o_g_pump_5; rw [if_neg c1, if_neg c2, if_pos c3, if_pos c5]
      have e91 : (o_g_pump_6 i what v) = v := by unfold o_g_pump_6; rw [if_neg c1, if_neg c2, if_pos c3, if_pos c5]
      have hP : va_P g.1 vwCl [(h0, .inr (12, mO q (upd (upd i 5 (o_g_pump_5 i what v)) 6 (o_g_pump_6 i what v)) L))] H := by rw [e90, e91]; exact hP
      have hD : va_D A [(h0, .inr (12, mO q (upd (upd i 5 (o_g_pump_5 i what v)) 6 (o_g_pump_6 i what v)) L))] := by rw [e90, e91]; exact hD
      exact retI C hS () (by unfold r_g_pump; rw [if_neg c1, if_neg c2, if_pos c3, if_pos c5]) (hP.pick [0] rfl) (hD.sub [0] rfl rfl) (Nat.le_of_ble_eq_true rfl) (Nat.le_of_ble_eq_true rfl) dX12_pump_78
    refine lv_bipush (v := -2) hx hb dX12_pump_25 (by decide) ?_
    have e90 : (o_g_pump_5 i what v) = (i 5) := by unfold o_g_pump_5; rw [if_neg c1, if_pos c2]
    have e91 : (o_g_pump_6 i what v) = (i 6) := by unfold o_g_pump_6; rw [if_neg c1, if_pos c2]
    have hP : va_P g.1 vwCl [(h0, .inr (12, mO q (upd (upd i 5 (o_g_pump_5 i what v)) 6 (o_g_pump_6 i what v)) L))] H := by rw [e90, e91]; exact hP
    have hD : va_D A [(h0, .inr (12, mO q (upd (upd i 5 (o_g_pump_5 i what v)) 6 (o_g_pump_6 i what v)) L))] := by rw [e90, e91]; exact hD
    exact retI C hS () (by unfold r_g_pump; rw [if_neg c1, if_pos c2]) (hP.pick [0] rfl) (hD.sub [0] rfl rfl) (Nat.le_of_ble_eq_true rfl) (Nat.le_of_ble_eq_true rfl) dX12_pump_27
  refine lv_iconst (v := -1) hx hb dX12_pump_10 (by decide) ?_
  have e90 : (o_g_pump_5 i what v) = (i 5) := by unfold o_g_pump_5; rw [if_pos c1]
  have e91 : (o_g_pump_6 i what v) = (i 6) := by unfold o_g_pump_6; rw [if_pos c1]
  have hP : va_P g.1 vwCl [(h0, .inr (12, mO q (upd (upd i 5 (o_g_pump_5 i what v)) 6 (o_g_pump_6 i what v)) L))] H := by rw [e90, e91]; exact hP
  have hD : va_D A [(h0, .inr (12, mO q (upd (upd i 5 (o_g_pump_5 i what v)) 6 (o_g_pump_6 i what v)) L))] := by rw [e90, e91]; exact hD
  exact retI C hS () (by unfold r_g_pump; rw [if_pos c1]) (hP.pick [0] rfl) (hD.sub [0] rfl rfl) (Nat.le_of_ble_eq_true rfl) (Nat.le_of_ble_eq_true rfl) dX12_pump_11
theorem hg_X12_waits_X12 : ∀ w ∈ wsX120, w ∈ wsX12_waits := fun w h => List.mem_cons_of_mem _ (List.mem_append_right _ h)
set_option maxRecDepth 100000 in
set_option maxHeartbeats 4000000 in
theorem g_waits (l : Launch) (g : Gt) (h0 : Nat) (q : Nat → Nat) (i : Nat → Int32) (L : Nat → Int64)  : Ctr l g yX12_waits wsX12_waits ({ frames := 0, cells := 0, slots := 0, locals := 0 } : Room) [.ref h0] [(h0, .inr (12, mO q i L))] (fun A => QI g A (fun r (_ : Unit) => r = (i 29)) (fun _u : Unit => [(h0, .inr (12, mO q i L))])) := by
  refine Ctr.of (cc := cX12_waits) (maxL := 1) (ret := (some .int)) (by decide) rfl (Nat.le_of_ble_eq_true rfl) ?_
  intro p e s m below meth c A ls H C hP hD hA hS hl
  obtain ⟨hx, hb, hr, hts, hown, hlocks, hml, hin, hKN⟩ := id C
  have hK := hKN.1
  have hN := hKN.2
  have F : CallFix p m c cX12_waits 1 s _ wsX12_waits yX12_waits.cls := ⟨hx, hb, hml, hown, hts⟩
  have hl : lv_has ls 1 [(0, .ref h0)] := hl
  refine lv_aload_n hx hb dX12_waits_0 rfl (lv_at hl 0 rfl) ?_
  refine va_get (D := g.1) (ci := 12) (v := .int (i 29)) (C := RX12) (T := TX12) (N := 66) hx hb hts hg_X12_waits_X12 hown hK hP 0 rfl rfl 29 (by decide) (hts (.fieldLink RX12 224 "OilPushModel" "waiting" "I") (List.mem_of_getElem? (i := 1) rfl)) (fun _ h => h) rfl dX12_waits_1 ?_
  exact retI C hS () rfl (hP.pick [0] rfl) (hD.sub [0] rfl rfl) (Nat.le_of_ble_eq_true rfl) (Nat.le_of_ble_eq_true rfl) dX12_waits_4
theorem hg_X12_forget_X12 : ∀ w ∈ wsX120, w ∈ wsX12_forget := fun w h => List.mem_cons_of_mem _ (List.mem_append_right _ h)
set_option maxRecDepth 100000 in
set_option maxHeartbeats 4000000 in
theorem g_forget (l : Launch) (g : Gt) (h0 : Nat) (q : Nat → Nat) (i : Nat → Int32) (L : Nat → Int64)  : Ctr l g yX12_forget wsX12_forget ({ frames := 0, cells := 0, slots := 0, locals := 0 } : Room) [.ref h0] [(h0, .inr (12, mO q i L))] (fun A => QI g A (fun r (_ : Unit) => r = (i 52)) (fun _u : Unit => [(h0, .inr (12, mO q (upd i 52 0) L))])) := by
  refine Ctr.of (cc := cX12_forget) (maxL := 2) (ret := (some .int)) (by decide) rfl (Nat.le_of_ble_eq_true rfl) ?_
  intro p e s m below meth c A ls H C hP hD hA hS hl
  obtain ⟨hx, hb, hr, hts, hown, hlocks, hml, hin, hKN⟩ := id C
  have hK := hKN.1
  have hN := hKN.2
  have F : CallFix p m c cX12_forget 2 s _ wsX12_forget yX12_forget.cls := ⟨hx, hb, hml, hown, hts⟩
  have hl : lv_has ls 2 [(0, .ref h0)] := hl
  refine lv_aload_n hx hb dX12_forget_0 rfl (lv_at hl 0 rfl) ?_
  refine va_get (D := g.1) (ci := 12) (v := .int (i 52)) (C := RX12) (T := TX12) (N := 66) hx hb hts hg_X12_forget_X12 hown hK hP 0 rfl rfl 52 (by decide) (hts (.fieldLink RX12 291 "OilPushModel" "readings" "I") (List.mem_of_getElem? (i := 1) rfl)) (fun _ h => h) rfl dX12_forget_1 ?_
  refine lv_istore_n (lv' := [(1, .int (i 52)), (0, .ref h0)]) hx hb dX12_forget_4 rfl hl (by decide) rfl (fun ls hl => ?_)
  refine lv_aload_n hx hb dX12_forget_5 rfl (lv_at hl 1 rfl) ?_
  refine lv_iconst (v := 0) hx hb dX12_forget_6 (by decide) ?_
  refine va_put (D := g.1) (ci := 12) (v := .int 0) (ty := .int) (C := RX12) (T := TX12) (N := 66) hx hb hts hg_X12_forget_X12 tyX12 tyX12_ok nmX12 hown hK hP hD hS 0 rfl rfl 52 (by decide) (hts (.fieldLink RX12 291 "OilPushModel" "readings" "I") (List.mem_of_getElem? (i := 1) rfl)) (fun _ h => h) rfl (by decide +kernel) rfl rfl (Nat.le_of_ble_eq_true rfl) dX12_forget_7 (fun H locs hP hD hS => ?_)
  have hP : va_P g.1 vwCl [(h0, .inr (12, mO q (upd i 52 0) L))] H := hP
  have hD : va_D A [(h0, .inr (12, mO q (upd i 52 0) L))] := hD
  refine lv_iload_n hx hb dX12_forget_10 rfl (lv_at hl 0 rfl) ?_
  exact retI C hS () rfl (hP.pick [0] rfl) (hD.sub [0] rfl rfl) (Nat.le_of_ble_eq_true rfl) (Nat.le_of_ble_eq_true rfl) dX12_forget_11
theorem hg_X12_trace_X12 : ∀ w ∈ wsX120, w ∈ wsX12_trace := fun w h => List.mem_cons_of_mem _ (List.mem_append_right _ h)
set_option maxRecDepth 100000 in
set_option maxHeartbeats 4000000 in
theorem g_trace (l : Launch) (g : Gt) (h0 : Nat) (q : Nat → Nat) (i : Nat → Int32) (L : Nat → Int64)  : Ctr l g yX12_trace wsX12_trace ({ frames := 0, cells := 0, slots := 0, locals := 0 } : Room) [.ref h0] [(h0, .inr (12, mO q i L))] (fun A => QI g A (fun r (_ : Unit) => r = (i 65)) (fun _u : Unit => [(h0, .inr (12, mO q i L))])) := by
  refine Ctr.of (cc := cX12_trace) (maxL := 1) (ret := (some .int)) (by decide) rfl (Nat.le_of_ble_eq_true rfl) ?_
  intro p e s m below meth c A ls H C hP hD hA hS hl
  obtain ⟨hx, hb, hr, hts, hown, hlocks, hml, hin, hKN⟩ := id C
  have hK := hKN.1
  have hN := hKN.2
  have F : CallFix p m c cX12_trace 1 s _ wsX12_trace yX12_trace.cls := ⟨hx, hb, hml, hown, hts⟩
  have hl : lv_has ls 1 [(0, .ref h0)] := hl
  refine lv_aload_n hx hb dX12_trace_0 rfl (lv_at hl 0 rfl) ?_
  refine va_get (D := g.1) (ci := 12) (v := .int (i 65)) (C := RX12) (T := TX12) (N := 66) hx hb hts hg_X12_trace_X12 hown hK hP 0 rfl rfl 65 (by decide) (hts (.fieldLink RX12 313 "OilPushModel" "trace" "I") (List.mem_of_getElem? (i := 1) rfl)) (fun _ h => h) rfl dX12_trace_1 ?_
  exact retI C hS () rfl (hP.pick [0] rfl) (hD.sub [0] rfl rfl) (Nat.le_of_ble_eq_true rfl) (Nat.le_of_ble_eq_true rfl) dX12_trace_4
theorem hg_X12_fault_X12 : ∀ w ∈ wsX120, w ∈ wsX12_fault := fun w h => List.mem_cons_of_mem _ (List.mem_append_right _ h)
set_option maxRecDepth 100000 in
set_option maxHeartbeats 4000000 in
theorem g_fault (l : Launch) (g : Gt) (h0 : Nat) (q : Nat → Nat) (i : Nat → Int32) (L : Nat → Int64)  : Ctr l g yX12_fault wsX12_fault ({ frames := 0, cells := 0, slots := 0, locals := 0 } : Room) [.ref h0] [(h0, .inr (12, mO q i L))] (fun A => QI g A (fun r (_ : Unit) => r = (i 0)) (fun _u : Unit => [(h0, .inr (12, mO q i L))])) := by
  refine Ctr.of (cc := cX12_fault) (maxL := 1) (ret := (some .int)) (by decide) rfl (Nat.le_of_ble_eq_true rfl) ?_
  intro p e s m below meth c A ls H C hP hD hA hS hl
  obtain ⟨hx, hb, hr, hts, hown, hlocks, hml, hin, hKN⟩ := id C
  have hK := hKN.1
  have hN := hKN.2
  have F : CallFix p m c cX12_fault 1 s _ wsX12_fault yX12_fault.cls := ⟨hx, hb, hml, hown, hts⟩
  have hl : lv_has ls 1 [(0, .ref h0)] := hl
  refine lv_aload_n hx hb dX12_fault_0 rfl (lv_at hl 0 rfl) ?_
  refine va_get (D := g.1) (ci := 12) (v := .int (i 0)) (C := RX12) (T := TX12) (N := 66) hx hb hts hg_X12_fault_X12 hown hK hP 0 rfl rfl 0 (by decide) (hts (.fieldLink RX12 141 "OilPushModel" "fault" "I") (List.mem_of_getElem? (i := 1) rfl)) (fun _ h => h) rfl dX12_fault_1 ?_
  exact retI C hS () rfl (hP.pick [0] rfl) (hD.sub [0] rfl rfl) (Nat.le_of_ble_eq_true rfl) (Nat.le_of_ble_eq_true rfl) dX12_fault_4
theorem hg_X12_gauge_X12 : ∀ w ∈ wsX120, w ∈ wsX12_gauge := fun w h => List.mem_cons_of_mem _ (List.mem_append_right _ h)
def r_g_gauge (i : Nat → Int32) (what : Int32) : Int32 := (if (r_c_in (Int32.toInt64 what) 0 3) = 0 then (-2) else (if (i 31) = 0 then (-3) else (if what = 0 then (i 32) else (if what = 1 then (i 33) else (if what = 2 then (i 34) else (i 35))))))
set_option maxRecDepth 100000 in
set_option maxHeartbeats 4000000 in
theorem g_gauge (l : Launch) (g : Gt) (h0 : Nat) (q : Nat → Nat) (i : Nat → Int32) (L : Nat → Int64) (what : Int32)  : Ctr l g yX12_gauge wsX12_gauge ({ frames := 1, cells := 0, slots := 0, locals := 25 } : Room) [.ref h0, .int what] [(h0, .inr (12, mO q i L))] (fun A => QI g A (fun r (_ : Unit) => r = (r_g_gauge i what)) (fun _u : Unit => [(h0, .inr (12, mO q i L))])) := by
  refine Ctr.of (cc := cX12_gauge) (maxL := 2) (ret := (some .int)) (by decide) rfl (Nat.le_of_ble_eq_true rfl) ?_
  intro p e s m below meth c A ls H C hP hD hA hS hl
  obtain ⟨hx, hb, hr, hts, hown, hlocks, hml, hin, hKN⟩ := id C
  have hK := hKN.1
  have hN := hKN.2
  have F : CallFix p m c cX12_gauge 2 s _ wsX12_gauge yX12_gauge.cls := ⟨hx, hb, hml, hown, hts⟩
  have hl : lv_has ls 2 [(0, .ref h0), (1, .int what)] := hl
  refine lv_iload_n hx hb dX12_gauge_0 rfl (lv_at hl 1 rfl) ?_
  refine lv_i2l hx hb dX12_gauge_1 rfl ?_
  refine lv_lconst (v := 0) hx hb dX12_gauge_2 (by decide) ?_
  refine lv_ldc2 (v := 3) hx hb hown (hts (.constantLong RX12 148 (3)) (List.mem_of_getElem? (i := 1) rfl)) dX12_gauge_3 ?_
  refine pureIS (As := [.long (Int32.toInt64 what), .long 0, .long 3]) (rest := []) F (c_in l (Int32.toInt64 what) 0 3) 3 gX12_gauge_X12_in rfl (by decide +kernel) rfl rfl ⟨(Nat.le_of_ble_eq_true rfl), (Nat.le_of_ble_eq_true rfl)⟩ (Nat.le_of_ble_eq_true rfl) (Nat.le_of_ble_eq_true rfl) rfl hl.1 rfl (Nat.le_of_ble_eq_true rfl) dX12_gauge_6 ?_
  refine lv_if_ne (tgt := 15) hx hb dX12_gauge_9 (by decide) (fun c1 => ?_) (fun c1 => ?_)
  · refine lv_aload_n hx hb dX12_gauge_15 rfl (lv_at hl 0 rfl) ?_
    refine va_get (D := g.1) (ci := 12) (v := .int (i 31)) (C := RX12) (T := TX12) (N := 66) hx hb hts hg_X12_gauge_X12 hown hK hP 0 rfl rfl 31 (by decide) (hts (.fieldLink RX12 269 "OilPushModel" "isTicked" "Z") (List.mem_of_getElem? (i := 2) rfl)) (fun _ h => h) rfl dX12_gauge_16 ?_
    refine lv_if_ne (tgt := 25) hx hb dX12_gauge_19 (by decide) (fun c2 => ?_) (fun c2 => ?_)
    · refine lv_iload_n hx hb dX12_gauge_25 rfl (lv_at hl 1 rfl) ?_
      refine lv_if_ne (tgt := 36) hx hb dX12_gauge_26 (by decide) (fun c3 => ?_) (fun c3 => ?_)
      · refine lv_iload_n hx hb dX12_gauge_36 rfl (lv_at hl 1 rfl) ?_
        refine lv_iconst (v := 1) hx hb dX12_gauge_37 (by decide) ?_
        refine lv_icmp_ne (tgt := 48) hx hb dX12_gauge_38 (by decide) (fun c4 => ?_) (fun c4 => ?_)
        · refine lv_iload_n hx hb dX12_gauge_48 rfl (lv_at hl 1 rfl) ?_
          refine lv_iconst (v := 2) hx hb dX12_gauge_49 (by decide) ?_
          refine lv_icmp_ne (tgt := 60) hx hb dX12_gauge_50 (by decide) (fun c5 => ?_) (fun c5 => ?_)
          · refine lv_aload_n hx hb dX12_gauge_60 rfl (lv_at hl 0 rfl) ?_
            refine va_get (D := g.1) (ci := 12) (v := .int (i 35)) (C := RX12) (T := TX12) (N := 66) hx hb hts hg_X12_gauge_X12 hown hK hP 0 rfl rfl 35 (by decide) (hts (.fieldLink RX12 246 "OilPushModel" "movers" "I") (List.mem_of_getElem? (i := 6) rfl)) (fun _ h => h) rfl dX12_gauge_61 ?_
            exact retI C hS () (by unfold r_g_gauge; rw [if_neg c1, if_neg c2, if_neg c3, if_neg c4, if_neg c5]) (hP.pick [0] rfl) (hD.sub [0] rfl rfl) (Nat.le_of_ble_eq_true rfl) (Nat.le_of_ble_eq_true rfl) dX12_gauge_64
          refine lv_aload_n hx hb dX12_gauge_53 rfl (lv_at hl 0 rfl) ?_
          refine va_get (D := g.1) (ci := 12) (v := .int (i 34)) (C := RX12) (T := TX12) (N := 66) hx hb hts hg_X12_gauge_X12 hown hK hP 0 rfl rfl 34 (by decide) (hts (.fieldLink RX12 253 "OilPushModel" "storeTook" "I") (List.mem_of_getElem? (i := 5) rfl)) (fun _ h => h) rfl dX12_gauge_54 ?_
          refine lv_goto (tgt := 64) hx hb dX12_gauge_57 (by decide) ?_
          exact retI C hS () (by unfold r_g_gauge; rw [if_neg c1, if_neg c2, if_neg c3, if_neg c4, if_pos c5]) (hP.pick [0] rfl) (hD.sub [0] rfl rfl) (Nat.le_of_ble_eq_true rfl) (Nat.le_of_ble_eq_true rfl) dX12_gauge_64
        refine lv_aload_n hx hb dX12_gauge_41 rfl (lv_at hl 0 rfl) ?_
        refine va_get (D := g.1) (ci := 12) (v := .int (i 33)) (C := RX12) (T := TX12) (N := 66) hx hb hts hg_X12_gauge_X12 hown hK hP 0 rfl rfl 33 (by decide) (hts (.fieldLink RX12 256 "OilPushModel" "over" "I") (List.mem_of_getElem? (i := 4) rfl)) (fun _ h => h) rfl dX12_gauge_42 ?_
        refine lv_goto (tgt := 64) hx hb dX12_gauge_45 (by decide) ?_
        exact retI C hS () (by unfold r_g_gauge; rw [if_neg c1, if_neg c2, if_neg c3, if_pos c4]) (hP.pick [0] rfl) (hD.sub [0] rfl rfl) (Nat.le_of_ble_eq_true rfl) (Nat.le_of_ble_eq_true rfl) dX12_gauge_64
      refine lv_aload_n hx hb dX12_gauge_29 rfl (lv_at hl 0 rfl) ?_
      refine va_get (D := g.1) (ci := 12) (v := .int (i 32)) (C := RX12) (T := TX12) (N := 66) hx hb hts hg_X12_gauge_X12 hown hK hP 0 rfl rfl 32 (by decide) (hts (.fieldLink RX12 243 "OilPushModel" "pressure" "I") (List.mem_of_getElem? (i := 3) rfl)) (fun _ h => h) rfl dX12_gauge_30 ?_
      refine lv_goto (tgt := 64) hx hb dX12_gauge_33 (by decide) ?_
      exact retI C hS () (by unfold r_g_gauge; rw [if_neg c1, if_neg c2, if_pos c3]) (hP.pick [0] rfl) (hD.sub [0] rfl rfl) (Nat.le_of_ble_eq_true rfl) (Nat.le_of_ble_eq_true rfl) dX12_gauge_64
    refine lv_bipush (v := -3) hx hb dX12_gauge_22 (by decide) ?_
    exact retI C hS () (by unfold r_g_gauge; rw [if_neg c1, if_pos c2]) (hP.pick [0] rfl) (hD.sub [0] rfl rfl) (Nat.le_of_ble_eq_true rfl) (Nat.le_of_ble_eq_true rfl) dX12_gauge_24
  refine lv_bipush (v := -2) hx hb dX12_gauge_12 (by decide) ?_
  exact retI C hS () (by unfold r_g_gauge; rw [if_pos c1]) (hP.pick [0] rfl) (hD.sub [0] rfl rfl) (Nat.le_of_ble_eq_true rfl) (Nat.le_of_ble_eq_true rfl) dX12_gauge_14
theorem noCyl_in {i : Nat → Int32} {cy : Int32} (h7 : 0 ≤ (i 7).toInt ∧ (i 7).toInt ≤ 6) (h : r_g_noCylinder i cy = 0) : vp_in cy 6 ∧ cy.toInt < (i 7).toInt := by
  unfold r_g_noCylinder at h
  by_cases h1 : r_c_in cy.toInt64 0 ((i 7).toInt64 - 1) = 0
  · rw [if_pos h1] at h; exact absurd h (by decide)
  · rw [in_eq] at h1
    have e : ((i 7).toInt64 - 1).toInt = (i 7).toInt - 1 := by
      rw [Int64.toInt_sub, Int32.toInt_toInt64, show (1 : Int64).toInt = 1 from by decide, Int.bmod_eq_of_le] <;> omega
    rw [e, Int32.toInt_toInt64, show (0 : Int64).toInt = 0 from by decide] at h1
    rw [vp_in_iff]
    by_cases h2 : 0 ≤ cy.toInt ∧ cy.toInt ≤ (i 7).toInt - 1
    · omega
    · rw [if_neg h2] at h1; exact absurd rfl h1
theorem hg_X12_valve_X12 : ∀ w ∈ wsX120, w ∈ wsX12_valve := fun w h => List.mem_cons_of_mem _ (List.mem_append_right _ h)
def r_g_valve (i : Nat → Int32) (a17 : Nat → Int32) (cy : Int32) (v : Int32) : Int32 := (if (r_g_noCylinder i cy) = 0 then (if (r_c_in (Int32.toInt64 v) 0 2) = 0 then (-2) else (a17 (cy.toNatClampNeg))) else (-1))
def o_g_valve_q17 (i : Nat → Int32) (a17 : Nat → Int32) (cy : Int32) (v : Int32) : Nat → Int32 := (if (r_g_noCylinder i cy) = 0 then (if (r_c_in (Int32.toInt64 v) 0 2) = 0 then a17 else (upd a17 (cy.toNatClampNeg) v)) else a17)
set_option maxRecDepth 100000 in
set_option maxHeartbeats 4000000 in
theorem g_valve (l : Launch) (g : Gt) (h0 : Nat) (q : Nat → Nat) (i : Nat → Int32) (L : Nat → Int64) (a17 : Nat → Int32) (cy : Int32) (v : Int32) (h7 : 0 ≤ (i 7).toInt ∧ (i 7).toInt ≤ 6) : Ctr l g yX12_valve wsX12_valve ({ frames := 2, cells := 0, slots := 0, locals := 46 } : Room) [.ref h0, .int cy, .int v] [(h0, .inr (12, mO q i L)), ((q 17), .inl (g.2 0, 6, .inl a17))] (fun A => QI g A (fun r (_ : Unit) => r = (r_g_valve i a17 cy v)) (fun _u : Unit => [(h0, .inr (12, mO q i L)), ((q 17), .inl (g.2 0, 6, .inl (o_g_valve_q17 i a17 cy v)))])) := by
  refine Ctr.of (cc := cX12_valve) (maxL := 4) (ret := (some .int)) (by decide) rfl (Nat.le_of_ble_eq_true rfl) ?_
  intro p e s m below meth c A ls H C hP hD hA hS hl
  obtain ⟨hx, hb, hr, hts, hown, hlocks, hml, hin, hKN⟩ := id C
  have hK := hKN.1
  have hN := hKN.2
  have F : CallFix p m c cX12_valve 4 s _ wsX12_valve yX12_valve.cls := ⟨hx, hb, hml, hown, hts⟩
  have hl : lv_has ls 4 [(0, .ref h0), (1, .int cy), (2, .int v)] := hl
  refine lv_aload_n hx hb dX12_valve_0 rfl (lv_at hl 0 rfl) ?_
  refine lv_iload_n hx hb dX12_valve_1 rfl (lv_at hl 1 rfl) ?_
  refine callIV (As := [.int cy]) (rest := []) (wr := [((q 17), .inl (g.2 0, 6, .inl a17))]) (Cn := RX12) C (g_noCylinder l g h0 q i L cy) 1 gX12_valve_X12_noCylinder rfl (by decide +kernel) ⟨(Nat.le_of_ble_eq_true rfl), (Nat.le_of_ble_eq_true rfl)⟩ [0] [1] hP hD hA hS rfl rfl rfl rfl (by decide) (k := 0) (ci := 12) rfl rfl rfl rfl hl.1 rfl (Nat.le_of_ble_eq_true rfl) dX12_valve_2 ⟨(Nat.le_of_ble_eq_true rfl), (Nat.le_of_ble_eq_true rfl)⟩ (fun r _u H locs hw hP hD hS => ?_)
  have hP : va_P g.1 vwCl [((q 17), .inl (g.2 0, 6, .inl a17)), (h0, .inr (12, mO q i L))] H := hP
  have hD : va_D A [((q 17), .inl (g.2 0, 6, .inl a17)), (h0, .inr (12, mO q i L))] := hD
  subst hw
  refine lv_if_eq (tgt := 10) hx hb dX12_valve_5 (by decide) (fun c1 => ?_) (fun c1 => ?_)
  · refine lv_iload_n hx hb dX12_valve_10 rfl (lv_at hl 2 rfl) ?_
    refine lv_i2l hx hb dX12_valve_11 rfl ?_
    refine lv_lconst (v := 0) hx hb dX12_valve_12 (by decide) ?_
    refine lv_ldc2 (v := 2) hx hb hown (hts (.constantLong RX12 162 (2)) (List.mem_of_getElem? (i := 1) rfl)) dX12_valve_13 ?_
    refine pureIS (As := [.long (Int32.toInt64 v), .long 0, .long 2]) (rest := []) F (c_in l (Int32.toInt64 v) 0 2) 3 gX12_valve_X12_in rfl (by decide +kernel) rfl rfl ⟨(Nat.le_of_ble_eq_true rfl), (Nat.le_of_ble_eq_true rfl)⟩ (Nat.le_of_ble_eq_true rfl) (Nat.le_of_ble_eq_true rfl) rfl hl.1 rfl (Nat.le_of_ble_eq_true rfl) dX12_valve_16 ?_
    refine lv_if_ne (tgt := 25) hx hb dX12_valve_19 (by decide) (fun c2 => ?_) (fun c2 => ?_)
    · refine lv_aload_n hx hb dX12_valve_25 rfl (lv_at hl 0 rfl) ?_
      refine va_get (D := g.1) (ci := 12) (v := .ref (q 17)) (C := RX12) (T := TX12) (N := 66) hx hb hts hg_X12_valve_X12 hown hK hP 1 rfl rfl 17 (by decide) (hts (.fieldLink RX12 49 "OilPushModel" "valves" "[I") (List.mem_of_getElem? (i := 2) rfl)) (fun _ h => h) rfl dX12_valve_26 ?_
      refine lv_iload_n hx hb dX12_valve_29 rfl (lv_at hl 1 rfl) ?_
      refine va_iald hx hb hK hP 0 0 rfl rfl (noCyl_in h7 c1).1 dX12_valve_30 ?_
      refine lv_istore_n (lv' := [(3, .int (a17 (cy.toNatClampNeg))), (0, .ref h0), (1, .int cy), (2, .int v)]) hx hb dX12_valve_31 rfl hl (by decide) rfl (fun ls hl => ?_)
      refine lv_aload_n hx hb dX12_valve_32 rfl (lv_at hl 1 rfl) ?_
      refine va_get (D := g.1) (ci := 12) (v := .ref (q 17)) (C := RX12) (T := TX12) (N := 66) hx hb hts hg_X12_valve_X12 hown hK hP 1 rfl rfl 17 (by decide) (hts (.fieldLink RX12 49 "OilPushModel" "valves" "[I") (List.mem_of_getElem? (i := 2) rfl)) (fun _ h => h) rfl dX12_valve_33 ?_
      refine lv_iload_n hx hb dX12_valve_36 rfl (lv_at hl 2 rfl) ?_
      refine lv_iload_n hx hb dX12_valve_37 rfl (lv_at hl 3 rfl) ?_
      refine va_iast hx hb hK hP hD hS 0 0 rfl rfl (noCyl_in h7 c1).1 dX12_valve_38 (fun H locs hP hD hS => ?_)
      have hP : va_P g.1 vwCl [((q 17), .inl (g.2 0, 6, .inl (upd a17 (cy.toNatClampNeg) v))), (h0, .inr (12, mO q i L))] H := hP
      have hD : va_D A [((q 17), .inl (g.2 0, 6, .inl (upd a17 (cy.toNatClampNeg) v))), (h0, .inr (12, mO q i L))] := hD
      refine lv_iload_n hx hb dX12_valve_39 rfl (lv_at hl 0 rfl) ?_
      have e90 : (o_g_valve_q17 i a17 cy v) = (upd a17 (cy.toNatClampNeg) v) := by unfold o_g_valve_q17; rw [if_pos c1, if_neg c2]
      have hP : va_P g.1 vwCl [((q 17), .inl (g.2 0, 6, .inl (o_g_valve_q17 i a17 cy v))), (h0, .inr (12, mO q i L))] H := by rw [e90]; exact hP
      have hD : va_D A [((q 17), .inl (g.2 0, 6, .inl (o_g_valve_q17 i a17 cy v))), (h0, .inr (12, mO q i L))] := by rw [e90]; exact hD
      exact retI C hS () (by unfold r_g_valve; rw [if_pos c1, if_neg c2]) (hP.pick [1, 0] rfl) (hD.sub [1, 0] rfl rfl) (Nat.le_of_ble_eq_true rfl) (Nat.le_of_ble_eq_true rfl) dX12_valve_40
    refine lv_bipush (v := -2) hx hb dX12_valve_22 (by decide) ?_
    have e90 : (o_g_valve_q17 i a17 cy v) = a17 := by unfold o_g_valve_q17; rw [if_pos c1, if_pos c2]
    have hP : va_P g.1 vwCl [((q 17), .inl (g.2 0, 6, .inl (o_g_valve_q17 i a17 cy v))), (h0, .inr (12, mO q i L))] H := by rw [e90]; exact hP
    have hD : va_D A [((q 17), .inl (g.2 0, 6, .inl (o_g_valve_q17 i a17 cy v))), (h0, .inr (12, mO q i L))] := by rw [e90]; exact hD
    exact retI C hS () (by unfold r_g_valve; rw [if_pos c1, if_pos c2]) (hP.pick [1, 0] rfl) (hD.sub [1, 0] rfl rfl) (Nat.le_of_ble_eq_true rfl) (Nat.le_of_ble_eq_true rfl) dX12_valve_24
  refine lv_iconst (v := -1) hx hb dX12_valve_8 (by decide) ?_
  have e90 : (o_g_valve_q17 i a17 cy v) = a17 := by unfold o_g_valve_q17; rw [if_neg c1]
  have hP : va_P g.1 vwCl [((q 17), .inl (g.2 0, 6, .inl (o_g_valve_q17 i a17 cy v))), (h0, .inr (12, mO q i L))] H := by rw [e90]; exact hP
  have hD : va_D A [((q 17), .inl (g.2 0, 6, .inl (o_g_valve_q17 i a17 cy v))), (h0, .inr (12, mO q i L))] := by rw [e90]; exact hD
  exact retI C hS () (by unfold r_g_valve; rw [if_neg c1]) (hP.pick [1, 0] rfl) (hD.sub [1, 0] rfl rfl) (Nat.le_of_ble_eq_true rfl) (Nat.le_of_ble_eq_true rfl) dX12_valve_9
theorem hg_X12_tell_X12 : ∀ w ∈ wsX120, w ∈ wsX12_tell := fun w h => List.mem_cons_of_mem _ (List.mem_append_right _ h)
def r_g_tell (i : Nat → Int32) (a8 : Nat → Int32) (a11 : Nat → Int32) (cy : Int32) : Int32 := (if (r_g_noCylinder i cy) = 0 then (if (a8 (cy.toNatClampNeg)) ≤ 0 then (if (a8 (cy.toNatClampNeg)) = 0 then (a11 (cy.toNatClampNeg)) else (if (a8 (cy.toNatClampNeg)) = 1 then ((a11 (cy.toNatClampNeg)) + 1000000) else (2 * (a11 (cy.toNatClampNeg))))) else (if (a8 (cy.toNatClampNeg)) = 0 then (a11 (cy.toNatClampNeg)) else (if (a8 (cy.toNatClampNeg)) = 1 then ((a11 (cy.toNatClampNeg)) + 1000000) else (2 * (a11 (cy.toNatClampNeg)))))) else (-1))
def o_g_tell_65 (i : Nat → Int32) (a8 : Nat → Int32) (cy : Int32) : Int32 := (if (r_g_noCylinder i cy) = 0 then (if (a8 (cy.toNatClampNeg)) ≤ 0 then (if (a8 (cy.toNatClampNeg)) = 0 then ((31 * (i 65)) + 1) else (if (a8 (cy.toNatClampNeg)) = 1 then ((31 * (i 65)) + 1) else ((31 * (i 65)) + 1))) else (if (a8 (cy.toNatClampNeg)) = 0 then ((31 * ((31 * (i 65)) + ((a8 (cy.toNatClampNeg)) + 1))) + 1) else (if (a8 (cy.toNatClampNeg)) = 1 then ((31 * ((31 * (i 65)) + ((a8 (cy.toNatClampNeg)) + 1))) + 1) else ((31 * ((31 * (i 65)) + ((a8 (cy.toNatClampNeg)) + 1))) + 1)))) else (i 65))
set_option maxRecDepth 100000 in
set_option maxHeartbeats 4000000 in
theorem g_tell (l : Launch) (g : Gt) (h0 : Nat) (q : Nat → Nat) (i : Nat → Int32) (L : Nat → Int64) (a8 : Nat → Int32) (a11 : Nat → Int32) (cy : Int32) (h7 : 0 ≤ (i 7).toInt ∧ (i 7).toInt ≤ 6) : Ctr l g yX12_tell wsX12_tell ({ frames := 2, cells := 0, slots := 0, locals := 46 } : Room) [.ref h0, .int cy] [(h0, .inr (12, mO q i L)), ((q 8), .inl (g.2 0, 6, .inl a8)), ((q 11), .inl (g.2 0, 6, .inl a11))] (fun A => QI g A (fun r (_ : Unit) => r = (r_g_tell i a8 a11 cy)) (fun _u : Unit => [(h0, .inr (12, mO q (upd i 65 (o_g_tell_65 i a8 cy)) L)), ((q 8), .inl (g.2 0, 6, .inl a8)), ((q 11), .inl (g.2 0, 6, .inl a11))])) := by
  refine Ctr.of (cc := cX12_tell) (maxL := 2) (ret := (some .int)) (by decide) rfl (Nat.le_of_ble_eq_true rfl) ?_
  intro p e s m below meth c A ls H C hP hD hA hS hl
  obtain ⟨hx, hb, hr, hts, hown, hlocks, hml, hin, hKN⟩ := id C
  have hK := hKN.1
  have hN := hKN.2
  have F : CallFix p m c cX12_tell 2 s _ wsX12_tell yX12_tell.cls := ⟨hx, hb, hml, hown, hts⟩
  have hl : lv_has ls 2 [(0, .ref h0), (1, .int cy)] := hl
  refine lv_aload_n hx hb dX12_tell_0 rfl (lv_at hl 0 rfl) ?_
  refine lv_iload_n hx hb dX12_tell_1 rfl (lv_at hl 1 rfl) ?_
  refine callIV (As := [.int cy]) (rest := []) (wr := [((q 8), .inl (g.2 0, 6, .inl a8)), ((q 11), .inl (g.2 0, 6, .inl a11))]) (Cn := RX12) C (g_noCylinder l g h0 q i L cy) 1 gX12_tell_X12_noCylinder rfl (by decide +kernel) ⟨(Nat.le_of_ble_eq_true rfl), (Nat.le_of_ble_eq_true rfl)⟩ [0] [1, 2] hP hD hA hS rfl rfl rfl rfl (by decide) (k := 0) (ci := 12) rfl rfl rfl rfl hl.1 rfl (Nat.le_of_ble_eq_true rfl) dX12_tell_2 ⟨(Nat.le_of_ble_eq_true rfl), (Nat.le_of_ble_eq_true rfl)⟩ (fun r _u H locs hw hP hD hS => ?_)
  have hP : va_P g.1 vwCl [((q 8), .inl (g.2 0, 6, .inl a8)), ((q 11), .inl (g.2 0, 6, .inl a11)), (h0, .inr (12, mO q i L))] H := hP
  have hD : va_D A [((q 8), .inl (g.2 0, 6, .inl a8)), ((q 11), .inl (g.2 0, 6, .inl a11)), (h0, .inr (12, mO q i L))] := hD
  subst hw
  refine lv_if_eq (tgt := 10) hx hb dX12_tell_5 (by decide) (fun c1 => ?_) (fun c1 => ?_)
  · refine lv_aload_n hx hb dX12_tell_10 rfl (lv_at hl 0 rfl) ?_
    refine va_get (D := g.1) (ci := 12) (v := .ref (q 8)) (C := RX12) (T := TX12) (N := 66) hx hb hts hg_X12_tell_X12 hown hK hP 2 rfl rfl 8 (by decide) (hts (.fieldLink RX12 22 "OilPushModel" "kind" "[I") (List.mem_of_getElem? (i := 1) rfl)) (fun _ h => h) rfl dX12_tell_11 ?_
    refine lv_iload_n hx hb dX12_tell_14 rfl (lv_at hl 1 rfl) ?_
    refine va_iald hx hb hK hP 0 0 rfl rfl (noCyl_in h7 c1).1 dX12_tell_15 ?_
    refine lv_if_le (tgt := 31) hx hb dX12_tell_16 (by decide) (fun c2 => ?_) (fun c2 => ?_)
    · refine lv_aload_n hx hb dX12_tell_31 rfl (lv_at hl 0 rfl) ?_
      refine lv_iconst (v := 1) hx hb dX12_tell_32 (by decide) ?_
      refine callVV (As := [.int 1]) (rest := []) (wr := [((q 8), .inl (g.2 0, 6, .inl a8)), ((q 11), .inl (g.2 0, 6, .inl a11))]) (Cn := RX12) C (g_traced l g h0 q i L 1) 1 gX12_tell_X12_traced rfl (by decide +kernel) ⟨(Nat.le_of_ble_eq_true rfl), (Nat.le_of_ble_eq_true rfl)⟩ [2] [0, 1] hP hD hA hS rfl rfl rfl rfl (by decide) (k := 2) (ci := 12) rfl rfl rfl rfl hl.1 rfl (Nat.le_of_ble_eq_true rfl) dX12_tell_33 ⟨(Nat.le_of_ble_eq_true rfl), (Nat.le_of_ble_eq_true rfl)⟩ (fun _u H locs hw hP hD hS => ?_)
      have hP : va_P g.1 vwCl [((q 8), .inl (g.2 0, 6, .inl a8)), ((q 11), .inl (g.2 0, 6, .inl a11)), (h0, .inr (12, mO q (upd i 65 ((31 * (i 65)) + 1)) L))] H := hP
      have hD : va_D A [((q 8), .inl (g.2 0, 6, .inl a8)), ((q 11), .inl (g.2 0, 6, .inl a11)), (h0, .inr (12, mO q (upd i 65 ((31 * (i 65)) + 1)) L))] := hD
      refine lv_aload_n hx hb dX12_tell_36 rfl (lv_at hl 0 rfl) ?_
      refine va_get (D := g.1) (ci := 12) (v := .ref (q 8)) (C := RX12) (T := TX12) (N := 66) hx hb hts hg_X12_tell_X12 hown hK hP 2 rfl rfl 8 (by decide) (hts (.fieldLink RX12 22 "OilPushModel" "kind" "[I") (List.mem_of_getElem? (i := 1) rfl)) (fun _ h => h) rfl dX12_tell_37 ?_
      refine lv_iload_n hx hb dX12_tell_40 rfl (lv_at hl 1 rfl) ?_
      refine va_iald hx hb hK hP 0 0 rfl rfl (noCyl_in h7 c1).1 dX12_tell_41 ?_
      refine lv_if_ne (tgt := 54) hx hb dX12_tell_42 (by decide) (fun c3 => ?_) (fun c3 => ?_)
      · refine lv_aload_n hx hb dX12_tell_54 rfl (lv_at hl 0 rfl) ?_
        refine va_get (D := g.1) (ci := 12) (v := .ref (q 8)) (C := RX12) (T := TX12) (N := 66) hx hb hts hg_X12_tell_X12 hown hK hP 2 rfl rfl 8 (by decide) (hts (.fieldLink RX12 22 "OilPushModel" "kind" "[I") (List.mem_of_getElem? (i := 1) rfl)) (fun _ h => h) rfl dX12_tell_55 ?_
        refine lv_iload_n hx hb dX12_tell_58 rfl (lv_at hl 1 rfl) ?_
        refine va_iald hx hb hK hP 0 0 rfl rfl (noCyl_in h7 c1).1 dX12_tell_59 ?_
        refine lv_iconst (v := 1) hx hb dX12_tell_60 (by decide) ?_
        refine lv_icmp_ne (tgt := 77) hx hb dX12_tell_61 (by decide) (fun c4 => ?_) (fun c4 => ?_)
        · refine lv_iconst (v := 2) hx hb dX12_tell_77 (by decide) ?_
          refine lv_aload_n hx hb dX12_tell_78 rfl (lv_at hl 0 rfl) ?_
          refine va_get (D := g.1) (ci := 12) (v := .ref (q 11)) (C := RX12) (T := TX12) (N := 66) hx hb hts hg_X12_tell_X12 hown hK hP 2 rfl rfl 11 (by decide) (hts (.fieldLink RX12 31 "OilPushModel" "oil" "[I") (List.mem_of_getElem? (i := 2) rfl)) (fun _ h => h) rfl dX12_tell_79 ?_
          refine lv_iload_n hx hb dX12_tell_82 rfl (lv_at hl 1 rfl) ?_
          refine va_iald hx hb hK hP 1 0 rfl rfl (noCyl_in h7 c1).1 dX12_tell_83 ?_
          refine lv_imul hx hb dX12_tell_84 ?_
          have e90 : (o_g_tell_65 i a8 cy) = ((31 * (i 65)) + 1) := by unfold o_g_tell_65; rw [if_pos c1, if_pos c2, if_neg c3, if_neg c4]
          have hP : va_P g.1 vwCl [((q 8), .inl (g.2 0, 6, .inl a8)), ((q 11), .inl (g.2 0, 6, .inl a11)), (h0, .inr (12, mO q (upd i 65 (o_g_tell_65 i a8 cy)) L))] H := by rw [e90]; exact hP
          have hD : va_D A [((q 8), .inl (g.2 0, 6, .inl a8)), ((q 11), .inl (g.2 0, 6, .inl a11)), (h0, .inr (12, mO q (upd i 65 (o_g_tell_65 i a8 cy)) L))] := by rw [e90]; exact hD
          exact retI C hS () (by unfold r_g_tell; rw [if_pos c1, if_pos c2, if_neg c3, if_neg c4]) (hP.pick [2, 0, 1] rfl) (hD.sub [2, 0, 1] rfl rfl) (Nat.le_of_ble_eq_true rfl) (Nat.le_of_ble_eq_true rfl) dX12_tell_85
        refine lv_aload_n hx hb dX12_tell_64 rfl (lv_at hl 0 rfl) ?_
        refine va_get (D := g.1) (ci := 12) (v := .ref (q 11)) (C := RX12) (T := TX12) (N := 66) hx hb hts hg_X12_tell_X12 hown hK hP 2 rfl rfl 11 (by decide) (hts (.fieldLink RX12 31 "OilPushModel" "oil" "[I") (List.mem_of_getElem? (i := 2) rfl)) (fun _ h => h) rfl dX12_tell_65 ?_
        refine lv_iload_n hx hb dX12_tell_68 rfl (lv_at hl 1 rfl) ?_
        refine va_iald hx hb hK hP 1 0 rfl rfl (noCyl_in h7 c1).1 dX12_tell_69 ?_
        refine lv_ldcw (v := 1000000) hx hb hown (hts (.constant RX12 320 (1000000)) (List.mem_of_getElem? (i := 3) rfl)) dX12_tell_70 ?_
        refine lv_iadd hx hb dX12_tell_73 ?_
        refine lv_goto (tgt := 85) hx hb dX12_tell_74 (by decide) ?_
        have e90 : (o_g_tell_65 i a8 cy) = ((31 * (i 65)) + 1) := by unfold o_g_tell_65; rw [if_pos c1, if_pos c2, if_neg c3, if_pos c4]
        have hP : va_P g.1 vwCl [((q 8), .inl (g.2 0, 6, .inl a8)), ((q 11), .inl (g.2 0, 6, .inl a11)), (h0, .inr (12, mO q (upd i 65 (o_g_tell_65 i a8 cy)) L))] H := by rw [e90]; exact hP
        have hD : va_D A [((q 8), .inl (g.2 0, 6, .inl a8)), ((q 11), .inl (g.2 0, 6, .inl a11)), (h0, .inr (12, mO q (upd i 65 (o_g_tell_65 i a8 cy)) L))] := by rw [e90]; exact hD
        exact retI C hS () (by unfold r_g_tell; rw [if_pos c1, if_pos c2, if_neg c3, if_pos c4]) (hP.pick [2, 0, 1] rfl) (hD.sub [2, 0, 1] rfl rfl) (Nat.le_of_ble_eq_true rfl) (Nat.le_of_ble_eq_true rfl) dX12_tell_85
      refine lv_aload_n hx hb dX12_tell_45 rfl (lv_at hl 0 rfl) ?_
      refine va_get (D := g.1) (ci := 12) (v := .ref (q 11)) (C := RX12) (T := TX12) (N := 66) hx hb hts hg_X12_tell_X12 hown hK hP 2 rfl rfl 11 (by decide) (hts (.fieldLink RX12 31 "OilPushModel" "oil" "[I") (List.mem_of_getElem? (i := 2) rfl)) (fun _ h => h) rfl dX12_tell_46 ?_
      refine lv_iload_n hx hb dX12_tell_49 rfl (lv_at hl 1 rfl) ?_
      refine va_iald hx hb hK hP 1 0 rfl rfl (noCyl_in h7 c1).1 dX12_tell_50 ?_
      refine lv_goto (tgt := 85) hx hb dX12_tell_51 (by decide) ?_
      have e90 : (o_g_tell_65 i a8 cy) = ((31 * (i 65)) + 1) := by unfold o_g_tell_65; rw [if_pos c1, if_pos c2, if_pos c3]
      have hP : va_P g.1 vwCl [((q 8), .inl (g.2 0, 6, .inl a8)), ((q 11), .inl (g.2 0, 6, .inl a11)), (h0, .inr (12, mO q (upd i 65 (o_g_tell_65 i a8 cy)) L))] H := by rw [e90]; exact hP
      have hD : va_D A [((q 8), .inl (g.2 0, 6, .inl a8)), ((q 11), .inl (g.2 0, 6, .inl a11)), (h0, .inr (12, mO q (upd i 65 (o_g_tell_65 i a8 cy)) L))] := by rw [e90]; exact hD
      exact retI C hS () (by unfold r_g_tell; rw [if_pos c1, if_pos c2, if_pos c3]) (hP.pick [2, 0, 1] rfl) (hD.sub [2, 0, 1] rfl rfl) (Nat.le_of_ble_eq_true rfl) (Nat.le_of_ble_eq_true rfl) dX12_tell_85
    refine lv_aload_n hx hb dX12_tell_19 rfl (lv_at hl 0 rfl) ?_
    refine lv_aload_n hx hb dX12_tell_20 rfl (lv_at hl 0 rfl) ?_
    refine va_get (D := g.1) (ci := 12) (v := .ref (q 8)) (C := RX12) (T := TX12) (N := 66) hx hb hts hg_X12_tell_X12 hown hK hP 2 rfl rfl 8 (by decide) (hts (.fieldLink RX12 22 "OilPushModel" "kind" "[I") (List.mem_of_getElem? (i := 1) rfl)) (fun _ h => h) rfl dX12_tell_21 ?_
    refine lv_iload_n hx hb dX12_tell_24 rfl (lv_at hl 1 rfl) ?_
    refine va_iald hx hb hK hP 0 0 rfl rfl (noCyl_in h7 c1).1 dX12_tell_25 ?_
    refine lv_iconst (v := 1) hx hb dX12_tell_26 (by decide) ?_
    refine lv_iadd hx hb dX12_tell_27 ?_
    refine callVV (As := [.int ((a8 (cy.toNatClampNeg)) + 1)]) (rest := []) (wr := [((q 8), .inl (g.2 0, 6, .inl a8)), ((q 11), .inl (g.2 0, 6, .inl a11))]) (Cn := RX12) C (g_traced l g h0 q i L ((a8 (cy.toNatClampNeg)) + 1)) 1 gX12_tell_X12_traced rfl (by decide +kernel) ⟨(Nat.le_of_ble_eq_true rfl), (Nat.le_of_ble_eq_true rfl)⟩ [2] [0, 1] hP hD hA hS rfl rfl rfl rfl (by decide) (k := 2) (ci := 12) rfl rfl rfl rfl hl.1 rfl (Nat.le_of_ble_eq_true rfl) dX12_tell_28 ⟨(Nat.le_of_ble_eq_true rfl), (Nat.le_of_ble_eq_true rfl)⟩ (fun _u H locs hw hP hD hS => ?_)
    have hP : va_P g.1 vwCl [((q 8), .inl (g.2 0, 6, .inl a8)), ((q 11), .inl (g.2 0, 6, .inl a11)), (h0, .inr (12, mO q (upd i 65 ((31 * (i 65)) + ((a8 (cy.toNatClampNeg)) + 1))) L))] H := hP
    have hD : va_D A [((q 8), .inl (g.2 0, 6, .inl a8)), ((q 11), .inl (g.2 0, 6, .inl a11)), (h0, .inr (12, mO q (upd i 65 ((31 * (i 65)) + ((a8 (cy.toNatClampNeg)) + 1))) L))] := hD
    refine lv_aload_n hx hb dX12_tell_31 rfl (lv_at hl 0 rfl) ?_
    refine lv_iconst (v := 1) hx hb dX12_tell_32 (by decide) ?_
    refine callVV (As := [.int 1]) (rest := []) (wr := [((q 8), .inl (g.2 0, 6, .inl a8)), ((q 11), .inl (g.2 0, 6, .inl a11))]) (Cn := RX12) C (g_traced l g h0 q (upd i 65 ((31 * (i 65)) + ((a8 (cy.toNatClampNeg)) + 1))) L 1) 1 gX12_tell_X12_traced rfl (by decide +kernel) ⟨(Nat.le_of_ble_eq_true rfl), (Nat.le_of_ble_eq_true rfl)⟩ [2] [0, 1] hP hD hA hS rfl rfl rfl rfl (by decide) (k := 2) (ci := 12) rfl rfl rfl rfl hl.1 rfl (Nat.le_of_ble_eq_true rfl) dX12_tell_33 ⟨(Nat.le_of_ble_eq_true rfl), (Nat.le_of_ble_eq_true rfl)⟩ (fun _u H locs hw hP hD hS => ?_)
    have hP : va_P g.1 vwCl [((q 8), .inl (g.2 0, 6, .inl a8)), ((q 11), .inl (g.2 0, 6, .inl a11)), (h0, .inr (12, mO q (upd i 65 ((31 * ((31 * (i 65)) + ((a8 (cy.toNatClampNeg)) + 1))) + 1)) L))] H := hP
    have hD : va_D A [((q 8), .inl (g.2 0, 6, .inl a8)), ((q 11), .inl (g.2 0, 6, .inl a11)), (h0, .inr (12, mO q (upd i 65 ((31 * ((31 * (i 65)) + ((a8 (cy.toNatClampNeg)) + 1))) + 1)) L))] := hD
    refine lv_aload_n hx hb dX12_tell_36 rfl (lv_at hl 0 rfl) ?_
    refine va_get (D := g.1) (ci := 12) (v := .ref (q 8)) (C := RX12) (T := TX12) (N := 66) hx hb hts hg_X12_tell_X12 hown hK hP 2 rfl rfl 8 (by decide) (hts (.fieldLink RX12 22 "OilPushModel" "kind" "[I") (List.mem_of_getElem? (i := 1) rfl)) (fun _ h => h) rfl dX12_tell_37 ?_
    refine lv_iload_n hx hb dX12_tell_40 rfl (lv_at hl 1 rfl) ?_
    refine va_iald hx hb hK hP 0 0 rfl rfl (noCyl_in h7 c1).1 dX12_tell_41 ?_
    refine lv_if_ne (tgt := 54) hx hb dX12_tell_42 (by decide) (fun c5 => ?_) (fun c5 => ?_)
    · refine lv_aload_n hx hb dX12_tell_54 rfl (lv_at hl 0 rfl) ?_
      refine va_get (D := g.1) (ci := 12) (v := .ref (q 8)) (C := RX12) (T := TX12) (N := 66) hx hb hts hg_X12_tell_X12 hown hK hP 2 rfl rfl 8 (by decide) (hts (.fieldLink RX12 22 "OilPushModel" "kind" "[I") (List.mem_of_getElem? (i := 1) rfl)) (fun _ h => h) rfl dX12_tell_55 ?_
      refine lv_iload_n hx hb dX12_tell_58 rfl (lv_at hl 1 rfl) ?_
      refine va_iald hx hb hK hP 0 0 rfl rfl (noCyl_in h7 c1).1 dX12_tell_59 ?_
      refine lv_iconst (v := 1) hx hb dX12_tell_60 (by decide) ?_
      refine lv_icmp_ne (tgt := 77) hx hb dX12_tell_61 (by decide) (fun c6 => ?_) (fun c6 => ?_)
      · refine lv_iconst (v := 2) hx hb dX12_tell_77 (by decide) ?_
        refine lv_aload_n hx hb dX12_tell_78 rfl (lv_at hl 0 rfl) ?_
        refine va_get (D := g.1) (ci := 12) (v := .ref (q 11)) (C := RX12) (T := TX12) (N := 66) hx hb hts hg_X12_tell_X12 hown hK hP 2 rfl rfl 11 (by decide) (hts (.fieldLink RX12 31 "OilPushModel" "oil" "[I") (List.mem_of_getElem? (i := 2) rfl)) (fun _ h => h) rfl dX12_tell_79 ?_
        refine lv_iload_n hx hb dX12_tell_82 rfl (lv_at hl 1 rfl) ?_
        refine va_iald hx hb hK hP 1 0 rfl rfl (noCyl_in h7 c1).1 dX12_tell_83 ?_
        refine lv_imul hx hb dX12_tell_84 ?_
        have e90 : (o_g_tell_65 i a8 cy) = ((31 * ((31 * (i 65)) + ((a8 (cy.toNatClampNeg)) + 1))) + 1) := by unfold o_g_tell_65; rw [if_pos c1, if_neg c2, if_neg c5, if_neg c6]
        have hP : va_P g.1 vwCl [((q 8), .inl (g.2 0, 6, .inl a8)), ((q 11), .inl (g.2 0, 6, .inl a11)), (h0, .inr (12, mO q (upd i 65 (o_g_tell_65 i a8 cy)) L))] H := by rw [e90]; exact hP
        have hD : va_D A [((q 8), .inl (g.2 0, 6, .inl a8)), ((q 11), .inl (g.2 0, 6, .inl a11)), (h0, .inr (12, mO q (upd i 65 (o_g_tell_65 i a8 cy)) L))] := by rw [e90]; exact hD
        exact retI C hS () (by unfold r_g_tell; rw [if_pos c1, if_neg c2, if_neg c5, if_neg c6]) (hP.pick [2, 0, 1] rfl) (hD.sub [2, 0, 1] rfl rfl) (Nat.le_of_ble_eq_true rfl) (Nat.le_of_ble_eq_true rfl) dX12_tell_85
      refine lv_aload_n hx hb dX12_tell_64 rfl (lv_at hl 0 rfl) ?_
      refine va_get (D := g.1) (ci := 12) (v := .ref (q 11)) (C := RX12) (T := TX12) (N := 66) hx hb hts hg_X12_tell_X12 hown hK hP 2 rfl rfl 11 (by decide) (hts (.fieldLink RX12 31 "OilPushModel" "oil" "[I") (List.mem_of_getElem? (i := 2) rfl)) (fun _ h => h) rfl dX12_tell_65 ?_
      refine lv_iload_n hx hb dX12_tell_68 rfl (lv_at hl 1 rfl) ?_
      refine va_iald hx hb hK hP 1 0 rfl rfl (noCyl_in h7 c1).1 dX12_tell_69 ?_
      refine lv_ldcw (v := 1000000) hx hb hown (hts (.constant RX12 320 (1000000)) (List.mem_of_getElem? (i := 3) rfl)) dX12_tell_70 ?_
      refine lv_iadd hx hb dX12_tell_73 ?_
      refine lv_goto (tgt := 85) hx hb dX12_tell_74 (by decide) ?_
      have e90 : (o_g_tell_65 i a8 cy) = ((31 * ((31 * (i 65)) + ((a8 (cy.toNatClampNeg)) + 1))) + 1) := by unfold o_g_tell_65; rw [if_pos c1, if_neg c2, if_neg c5, if_pos c6]
      have hP : va_P g.1 vwCl [((q 8), .inl (g.2 0, 6, .inl a8)), ((q 11), .inl (g.2 0, 6, .inl a11)), (h0, .inr (12, mO q (upd i 65 (o_g_tell_65 i a8 cy)) L))] H := by rw [e90]; exact hP
      have hD : va_D A [((q 8), .inl (g.2 0, 6, .inl a8)), ((q 11), .inl (g.2 0, 6, .inl a11)), (h0, .inr (12, mO q (upd i 65 (o_g_tell_65 i a8 cy)) L))] := by rw [e90]; exact hD
      exact retI C hS () (by unfold r_g_tell; rw [if_pos c1, if_neg c2, if_neg c5, if_pos c6]) (hP.pick [2, 0, 1] rfl) (hD.sub [2, 0, 1] rfl rfl) (Nat.le_of_ble_eq_true rfl) (Nat.le_of_ble_eq_true rfl) dX12_tell_85
    refine lv_aload_n hx hb dX12_tell_45 rfl (lv_at hl 0 rfl) ?_
    refine va_get (D := g.1) (ci := 12) (v := .ref (q 11)) (C := RX12) (T := TX12) (N := 66) hx hb hts hg_X12_tell_X12 hown hK hP 2 rfl rfl 11 (by decide) (hts (.fieldLink RX12 31 "OilPushModel" "oil" "[I") (List.mem_of_getElem? (i := 2) rfl)) (fun _ h => h) rfl dX12_tell_46 ?_
    refine lv_iload_n hx hb dX12_tell_49 rfl (lv_at hl 1 rfl) ?_
    refine va_iald hx hb hK hP 1 0 rfl rfl (noCyl_in h7 c1).1 dX12_tell_50 ?_
    refine lv_goto (tgt := 85) hx hb dX12_tell_51 (by decide) ?_
    have e90 : (o_g_tell_65 i a8 cy) = ((31 * ((31 * (i 65)) + ((a8 (cy.toNatClampNeg)) + 1))) + 1) := by unfold o_g_tell_65; rw [if_pos c1, if_neg c2, if_pos c5]
    have hP : va_P g.1 vwCl [((q 8), .inl (g.2 0, 6, .inl a8)), ((q 11), .inl (g.2 0, 6, .inl a11)), (h0, .inr (12, mO q (upd i 65 (o_g_tell_65 i a8 cy)) L))] H := by rw [e90]; exact hP
    have hD : va_D A [((q 8), .inl (g.2 0, 6, .inl a8)), ((q 11), .inl (g.2 0, 6, .inl a11)), (h0, .inr (12, mO q (upd i 65 (o_g_tell_65 i a8 cy)) L))] := by rw [e90]; exact hD
    exact retI C hS () (by unfold r_g_tell; rw [if_pos c1, if_neg c2, if_pos c5]) (hP.pick [2, 0, 1] rfl) (hD.sub [2, 0, 1] rfl rfl) (Nat.le_of_ble_eq_true rfl) (Nat.le_of_ble_eq_true rfl) dX12_tell_85
  refine lv_iconst (v := -1) hx hb dX12_tell_8 (by decide) ?_
  have e90 : (o_g_tell_65 i a8 cy) = (i 65) := by unfold o_g_tell_65; rw [if_neg c1]
  have hP : va_P g.1 vwCl [((q 8), .inl (g.2 0, 6, .inl a8)), ((q 11), .inl (g.2 0, 6, .inl a11)), (h0, .inr (12, mO q (upd i 65 (o_g_tell_65 i a8 cy)) L))] H := by rw [e90]; exact hP
  have hD : va_D A [((q 8), .inl (g.2 0, 6, .inl a8)), ((q 11), .inl (g.2 0, 6, .inl a11)), (h0, .inr (12, mO q (upd i 65 (o_g_tell_65 i a8 cy)) L))] := by rw [e90]; exact hD
  exact retI C hS () (by unfold r_g_tell; rw [if_neg c1]) (hP.pick [2, 0, 1] rfl) (hD.sub [2, 0, 1] rfl rfl) (Nat.le_of_ble_eq_true rfl) (Nat.le_of_ble_eq_true rfl) dX12_tell_9
theorem hg_X12_look_X12 : ∀ w ∈ wsX120, w ∈ wsX12_look := fun w h => List.mem_cons_of_mem _ (List.mem_append_right _ h)
def r_g_look (i : Nat → Int32) (a8 : Nat → Int32) (cy : Int32) : Int32 := (if (r_g_noCylinder i cy) = 0 then (if (a8 (cy.toNatClampNeg)) = 2 then 88 else cy) else (-1))
def o_g_look_65 (i : Nat → Int32) (a8 : Nat → Int32) (cy : Int32) : Int32 := (if (r_g_noCylinder i cy) = 0 then (if (a8 (cy.toNatClampNeg)) = 2 then ((31 * (i 65)) + 5) else ((31 * (i 65)) + 4)) else (i 65))
set_option maxRecDepth 100000 in
set_option maxHeartbeats 4000000 in
theorem g_look (l : Launch) (g : Gt) (h0 : Nat) (q : Nat → Nat) (i : Nat → Int32) (L : Nat → Int64) (a8 : Nat → Int32) (cy : Int32) (h7 : 0 ≤ (i 7).toInt ∧ (i 7).toInt ≤ 6) : Ctr l g yX12_look wsX12_look ({ frames := 2, cells := 0, slots := 0, locals := 46 } : Room) [.ref h0, .int cy] [(h0, .inr (12, mO q i L)), ((q 8), .inl (g.2 0, 6, .inl a8))] (fun A => QI g A (fun r (_ : Unit) => r = (r_g_look i a8 cy)) (fun _u : Unit => [(h0, .inr (12, mO q (upd i 65 (o_g_look_65 i a8 cy)) L)), ((q 8), .inl (g.2 0, 6, .inl a8))])) := by
  refine Ctr.of (cc := cX12_look) (maxL := 2) (ret := (some .int)) (by decide) rfl (Nat.le_of_ble_eq_true rfl) ?_
  intro p e s m below meth c A ls H C hP hD hA hS hl
  obtain ⟨hx, hb, hr, hts, hown, hlocks, hml, hin, hKN⟩ := id C
  have hK := hKN.1
  have hN := hKN.2
  have F : CallFix p m c cX12_look 2 s _ wsX12_look yX12_look.cls := ⟨hx, hb, hml, hown, hts⟩
  have hl : lv_has ls 2 [(0, .ref h0), (1, .int cy)] := hl
  refine lv_aload_n hx hb dX12_look_0 rfl (lv_at hl 0 rfl) ?_
  refine lv_iload_n hx hb dX12_look_1 rfl (lv_at hl 1 rfl) ?_
  refine callIV (As := [.int cy]) (rest := []) (wr := [((q 8), .inl (g.2 0, 6, .inl a8))]) (Cn := RX12) C (g_noCylinder l g h0 q i L cy) 1 gX12_look_X12_noCylinder rfl (by decide +kernel) ⟨(Nat.le_of_ble_eq_true rfl), (Nat.le_of_ble_eq_true rfl)⟩ [0] [1] hP hD hA hS rfl rfl rfl rfl (by decide) (k := 0) (ci := 12) rfl rfl rfl rfl hl.1 rfl (Nat.le_of_ble_eq_true rfl) dX12_look_2 ⟨(Nat.le_of_ble_eq_true rfl), (Nat.le_of_ble_eq_true rfl)⟩ (fun r _u H locs hw hP hD hS => ?_)
  have hP : va_P g.1 vwCl [((q 8), .inl (g.2 0, 6, .inl a8)), (h0, .inr (12, mO q i L))] H := hP
  have hD : va_D A [((q 8), .inl (g.2 0, 6, .inl a8)), (h0, .inr (12, mO q i L))] := hD
  subst hw
  refine lv_if_eq (tgt := 10) hx hb dX12_look_5 (by decide) (fun c1 => ?_) (fun c1 => ?_)
  · refine lv_aload_n hx hb dX12_look_10 rfl (lv_at hl 0 rfl) ?_
    refine lv_aload_n hx hb dX12_look_11 rfl (lv_at hl 0 rfl) ?_
    refine va_get (D := g.1) (ci := 12) (v := .ref (q 8)) (C := RX12) (T := TX12) (N := 66) hx hb hts hg_X12_look_X12 hown hK hP 1 rfl rfl 8 (by decide) (hts (.fieldLink RX12 22 "OilPushModel" "kind" "[I") (List.mem_of_getElem? (i := 1) rfl)) (fun _ h => h) rfl dX12_look_12 ?_
    refine lv_iload_n hx hb dX12_look_15 rfl (lv_at hl 1 rfl) ?_
    refine va_iald hx hb hK hP 0 0 rfl rfl (noCyl_in h7 c1).1 dX12_look_16 ?_
    refine lv_iconst (v := 2) hx hb dX12_look_17 (by decide) ?_
    refine lv_icmp_ne (tgt := 25) hx hb dX12_look_18 (by decide) (fun c2 => ?_) (fun c2 => ?_)
    · refine lv_iconst (v := 4) hx hb dX12_look_25 (by decide) ?_
      refine callVV (As := [.int 4]) (rest := []) (wr := [((q 8), .inl (g.2 0, 6, .inl a8))]) (Cn := RX12) C (g_traced l g h0 q i L 4) 1 gX12_look_X12_traced rfl (by decide +kernel) ⟨(Nat.le_of_ble_eq_true rfl), (Nat.le_of_ble_eq_true rfl)⟩ [1] [0] hP hD hA hS rfl rfl rfl rfl (by decide) (k := 1) (ci := 12) rfl rfl rfl rfl hl.1 rfl (Nat.le_of_ble_eq_true rfl) dX12_look_26 ⟨(Nat.le_of_ble_eq_true rfl), (Nat.le_of_ble_eq_true rfl)⟩ (fun _u H locs hw hP hD hS => ?_)
      have hP : va_P g.1 vwCl [((q 8), .inl (g.2 0, 6, .inl a8)), (h0, .inr (12, mO q (upd i 65 ((31 * (i 65)) + 4)) L))] H := hP
      have hD : va_D A [((q 8), .inl (g.2 0, 6, .inl a8)), (h0, .inr (12, mO q (upd i 65 ((31 * (i 65)) + 4)) L))] := hD
      refine lv_aload_n hx hb dX12_look_29 rfl (lv_at hl 0 rfl) ?_
      refine va_get (D := g.1) (ci := 12) (v := .ref (q 8)) (C := RX12) (T := TX12) (N := 66) hx hb hts hg_X12_look_X12 hown hK hP 1 rfl rfl 8 (by decide) (hts (.fieldLink RX12 22 "OilPushModel" "kind" "[I") (List.mem_of_getElem? (i := 1) rfl)) (fun _ h => h) rfl dX12_look_30 ?_
      refine lv_iload_n hx hb dX12_look_33 rfl (lv_at hl 1 rfl) ?_
      refine va_iald hx hb hK hP 0 0 rfl rfl (noCyl_in h7 c1).1 dX12_look_34 ?_
      refine lv_iconst (v := 2) hx hb dX12_look_35 (by decide) ?_
      refine lv_icmp_ne (tgt := 44) hx hb dX12_look_36 (by decide) (fun _ => ?_) (fun cc0 => absurd cc0 c2)
      refine lv_iload_n hx hb dX12_look_44 rfl (lv_at hl 1 rfl) ?_
      have e90 : (o_g_look_65 i a8 cy) = ((31 * (i 65)) + 4) := by unfold o_g_look_65; rw [if_pos c1, if_neg c2]
      have hP : va_P g.1 vwCl [((q 8), .inl (g.2 0, 6, .inl a8)), (h0, .inr (12, mO q (upd i 65 (o_g_look_65 i a8 cy)) L))] H := by rw [e90]; exact hP
      have hD : va_D A [((q 8), .inl (g.2 0, 6, .inl a8)), (h0, .inr (12, mO q (upd i 65 (o_g_look_65 i a8 cy)) L))] := by rw [e90]; exact hD
      exact retI C hS () (by unfold r_g_look; rw [if_pos c1, if_neg c2]) (hP.pick [1, 0] rfl) (hD.sub [1, 0] rfl rfl) (Nat.le_of_ble_eq_true rfl) (Nat.le_of_ble_eq_true rfl) dX12_look_45
    refine lv_iconst (v := 5) hx hb dX12_look_21 (by decide) ?_
    refine lv_goto (tgt := 26) hx hb dX12_look_22 (by decide) ?_
    refine callVV (As := [.int 5]) (rest := []) (wr := [((q 8), .inl (g.2 0, 6, .inl a8))]) (Cn := RX12) C (g_traced l g h0 q i L 5) 1 gX12_look_X12_traced rfl (by decide +kernel) ⟨(Nat.le_of_ble_eq_true rfl), (Nat.le_of_ble_eq_true rfl)⟩ [1] [0] hP hD hA hS rfl rfl rfl rfl (by decide) (k := 1) (ci := 12) rfl rfl rfl rfl hl.1 rfl (Nat.le_of_ble_eq_true rfl) dX12_look_26 ⟨(Nat.le_of_ble_eq_true rfl), (Nat.le_of_ble_eq_true rfl)⟩ (fun _u H locs hw hP hD hS => ?_)
    have hP : va_P g.1 vwCl [((q 8), .inl (g.2 0, 6, .inl a8)), (h0, .inr (12, mO q (upd i 65 ((31 * (i 65)) + 5)) L))] H := hP
    have hD : va_D A [((q 8), .inl (g.2 0, 6, .inl a8)), (h0, .inr (12, mO q (upd i 65 ((31 * (i 65)) + 5)) L))] := hD
    refine lv_aload_n hx hb dX12_look_29 rfl (lv_at hl 0 rfl) ?_
    refine va_get (D := g.1) (ci := 12) (v := .ref (q 8)) (C := RX12) (T := TX12) (N := 66) hx hb hts hg_X12_look_X12 hown hK hP 1 rfl rfl 8 (by decide) (hts (.fieldLink RX12 22 "OilPushModel" "kind" "[I") (List.mem_of_getElem? (i := 1) rfl)) (fun _ h => h) rfl dX12_look_30 ?_
    refine lv_iload_n hx hb dX12_look_33 rfl (lv_at hl 1 rfl) ?_
    refine va_iald hx hb hK hP 0 0 rfl rfl (noCyl_in h7 c1).1 dX12_look_34 ?_
    refine lv_iconst (v := 2) hx hb dX12_look_35 (by decide) ?_
    refine lv_icmp_ne (tgt := 44) hx hb dX12_look_36 (by decide) (fun cc0 => absurd c2 cc0) (fun _ => ?_)
    refine lv_bipush (v := 88) hx hb dX12_look_39 (by decide) ?_
    refine lv_goto (tgt := 45) hx hb dX12_look_41 (by decide) ?_
    have e90 : (o_g_look_65 i a8 cy) = ((31 * (i 65)) + 5) := by unfold o_g_look_65; rw [if_pos c1, if_pos c2]
    have hP : va_P g.1 vwCl [((q 8), .inl (g.2 0, 6, .inl a8)), (h0, .inr (12, mO q (upd i 65 (o_g_look_65 i a8 cy)) L))] H := by rw [e90]; exact hP
    have hD : va_D A [((q 8), .inl (g.2 0, 6, .inl a8)), (h0, .inr (12, mO q (upd i 65 (o_g_look_65 i a8 cy)) L))] := by rw [e90]; exact hD
    exact retI C hS () (by unfold r_g_look; rw [if_pos c1, if_pos c2]) (hP.pick [1, 0] rfl) (hD.sub [1, 0] rfl rfl) (Nat.le_of_ble_eq_true rfl) (Nat.le_of_ble_eq_true rfl) dX12_look_45
  refine lv_iconst (v := -1) hx hb dX12_look_8 (by decide) ?_
  have e90 : (o_g_look_65 i a8 cy) = (i 65) := by unfold o_g_look_65; rw [if_neg c1]
  have hP : va_P g.1 vwCl [((q 8), .inl (g.2 0, 6, .inl a8)), (h0, .inr (12, mO q (upd i 65 (o_g_look_65 i a8 cy)) L))] H := by rw [e90]; exact hP
  have hD : va_D A [((q 8), .inl (g.2 0, 6, .inl a8)), (h0, .inr (12, mO q (upd i 65 (o_g_look_65 i a8 cy)) L))] := by rw [e90]; exact hD
  exact retI C hS () (by unfold r_g_look; rw [if_neg c1]) (hP.pick [1, 0] rfl) (hD.sub [1, 0] rfl rfl) (Nat.le_of_ble_eq_true rfl) (Nat.le_of_ble_eq_true rfl) dX12_look_9
theorem hg_X12_as_X12 : ∀ w ∈ wsX120, w ∈ wsX12_as := fun w h => List.mem_cons_of_mem _ (List.mem_append_right _ h)
def r_g_as (i : Nat → Int32) (a8 : Nat → Int32) (cy : Int32) (k : Int32) : Int32 := (if (r_g_noCylinder i cy) = 0 then (if (r_c_in (Int32.toInt64 k) 0 2) = 0 then (-2) else (if (a8 (cy.toNatClampNeg)) < k then ((-10) - 2) else 1)) else (-1))
def o_g_as_0 (i : Nat → Int32) (a8 : Nat → Int32) (cy : Int32) (k : Int32) : Int32 := (if (r_g_noCylinder i cy) = 0 then (if (r_c_in (Int32.toInt64 k) 0 2) = 0 then 0 else (if (a8 (cy.toNatClampNeg)) < k then 2 else 0)) else 0)
set_option maxRecDepth 100000 in
set_option maxHeartbeats 4000000 in
theorem g_as (l : Launch) (g : Gt) (h0 : Nat) (q : Nat → Nat) (i : Nat → Int32) (L : Nat → Int64) (a8 : Nat → Int32) (cy : Int32) (k : Int32) (h7 : 0 ≤ (i 7).toInt ∧ (i 7).toInt ≤ 6) : Ctr l g yX12_as wsX12_as ({ frames := 2, cells := 0, slots := 0, locals := 46 } : Room) [.ref h0, .int cy, .int k] [(h0, .inr (12, mO q i L)), ((q 8), .inl (g.2 0, 6, .inl a8))] (fun A => QI g A (fun r (_ : Unit) => r = (r_g_as i a8 cy k)) (fun _u : Unit => [(h0, .inr (12, mO q (upd i 0 (o_g_as_0 i a8 cy k)) L)), ((q 8), .inl (g.2 0, 6, .inl a8))])) := by
  refine Ctr.of (cc := cX12_as) (maxL := 3) (ret := (some .int)) (by decide) rfl (Nat.le_of_ble_eq_true rfl) ?_
  intro p e s m below meth c A ls H C hP hD hA hS hl
  obtain ⟨hx, hb, hr, hts, hown, hlocks, hml, hin, hKN⟩ := id C
  have hK := hKN.1
  have hN := hKN.2
  have F : CallFix p m c cX12_as 3 s _ wsX12_as yX12_as.cls := ⟨hx, hb, hml, hown, hts⟩
  have hl : lv_has ls 3 [(0, .ref h0), (1, .int cy), (2, .int k)] := hl
  refine lv_aload_n hx hb dX12_as_0 rfl (lv_at hl 0 rfl) ?_
  refine lv_iload_n hx hb dX12_as_1 rfl (lv_at hl 1 rfl) ?_
  refine callIV (As := [.int cy]) (rest := []) (wr := [((q 8), .inl (g.2 0, 6, .inl a8))]) (Cn := RX12) C (g_noCylinder l g h0 q i L cy) 1 gX12_as_X12_noCylinder rfl (by decide +kernel) ⟨(Nat.le_of_ble_eq_true rfl), (Nat.le_of_ble_eq_true rfl)⟩ [0] [1] hP hD hA hS rfl rfl rfl rfl (by decide) (k := 0) (ci := 12) rfl rfl rfl rfl hl.1 rfl (Nat.le_of_ble_eq_true rfl) dX12_as_2 ⟨(Nat.le_of_ble_eq_true rfl), (Nat.le_of_ble_eq_true rfl)⟩ (fun r _u H locs hw hP hD hS => ?_)
  have hP : va_P g.1 vwCl [((q 8), .inl (g.2 0, 6, .inl a8)), (h0, .inr (12, mO q i L))] H := hP
  have hD : va_D A [((q 8), .inl (g.2 0, 6, .inl a8)), (h0, .inr (12, mO q i L))] := hD
  subst hw
  refine lv_if_eq (tgt := 14) hx hb dX12_as_5 (by decide) (fun c1 => ?_) (fun c1 => ?_)
  · refine lv_iload_n hx hb dX12_as_14 rfl (lv_at hl 2 rfl) ?_
    refine lv_i2l hx hb dX12_as_15 rfl ?_
    refine lv_lconst (v := 0) hx hb dX12_as_16 (by decide) ?_
    refine lv_ldc2 (v := 2) hx hb hown (hts (.constantLong RX12 162 (2)) (List.mem_of_getElem? (i := 1) rfl)) dX12_as_17 ?_
    refine pureIS (As := [.long (Int32.toInt64 k), .long 0, .long 2]) (rest := []) F (c_in l (Int32.toInt64 k) 0 2) 3 gX12_as_X12_in rfl (by decide +kernel) rfl rfl ⟨(Nat.le_of_ble_eq_true rfl), (Nat.le_of_ble_eq_true rfl)⟩ (Nat.le_of_ble_eq_true rfl) (Nat.le_of_ble_eq_true rfl) rfl hl.1 rfl (Nat.le_of_ble_eq_true rfl) dX12_as_20 ?_
    refine lv_if_ne (tgt := 33) hx hb dX12_as_23 (by decide) (fun c2 => ?_) (fun c2 => ?_)
    · refine lv_aload_n hx hb dX12_as_33 rfl (lv_at hl 0 rfl) ?_
      refine va_get (D := g.1) (ci := 12) (v := .ref (q 8)) (C := RX12) (T := TX12) (N := 66) hx hb hts hg_X12_as_X12 hown hK hP 1 rfl rfl 8 (by decide) (hts (.fieldLink RX12 22 "OilPushModel" "kind" "[I") (List.mem_of_getElem? (i := 2) rfl)) (fun _ h => h) rfl dX12_as_34 ?_
      refine lv_iload_n hx hb dX12_as_37 rfl (lv_at hl 1 rfl) ?_
      refine va_iald hx hb hK hP 0 0 rfl rfl (noCyl_in h7 c1).1 dX12_as_38 ?_
      refine lv_iload_n hx hb dX12_as_39 rfl (lv_at hl 2 rfl) ?_
      refine lv_icmp_lt (tgt := 51) hx hb dX12_as_40 (by decide) (fun c3 => ?_) (fun c3 => ?_)
      · refine lv_aload_n hx hb dX12_as_51 rfl (lv_at hl 0 rfl) ?_
        refine lv_iconst (v := 2) hx hb dX12_as_52 (by decide) ?_
        refine callIV (As := [.int 2]) (rest := []) (wr := [((q 8), .inl (g.2 0, 6, .inl a8))]) (Cn := RX12) C (g_failed l g h0 q i L 2) 1 gX12_as_X12_failed rfl (by decide +kernel) ⟨(Nat.le_of_ble_eq_true rfl), (Nat.le_of_ble_eq_true rfl)⟩ [1] [0] hP hD hA hS rfl rfl rfl rfl (by decide) (k := 1) (ci := 12) rfl rfl rfl rfl hl.1 rfl (Nat.le_of_ble_eq_true rfl) dX12_as_53 ⟨(Nat.le_of_ble_eq_true rfl), (Nat.le_of_ble_eq_true rfl)⟩ (fun r _u H locs hw hP hD hS => ?_)
        have hP : va_P g.1 vwCl [((q 8), .inl (g.2 0, 6, .inl a8)), (h0, .inr (12, mO q (upd i 0 2) L))] H := hP
        have hD : va_D A [((q 8), .inl (g.2 0, 6, .inl a8)), (h0, .inr (12, mO q (upd i 0 2) L))] := hD
        subst hw
        have e90 : (o_g_as_0 i a8 cy k) = 2 := by unfold o_g_as_0; rw [if_pos c1, if_neg c2, if_pos c3]
        have hP : va_P g.1 vwCl [((q 8), .inl (g.2 0, 6, .inl a8)), (h0, .inr (12, mO q (upd i 0 (o_g_as_0 i a8 cy k)) L))] H := by rw [e90]; exact hP
        have hD : va_D A [((q 8), .inl (g.2 0, 6, .inl a8)), (h0, .inr (12, mO q (upd i 0 (o_g_as_0 i a8 cy k)) L))] := by rw [e90]; exact hD
        exact retI C hS () (by unfold r_g_as; rw [if_pos c1, if_neg c2, if_pos c3]) (hP.pick [1, 0] rfl) (hD.sub [1, 0] rfl rfl) (Nat.le_of_ble_eq_true rfl) (Nat.le_of_ble_eq_true rfl) dX12_as_56
      refine lv_aload_n hx hb dX12_as_43 rfl (lv_at hl 0 rfl) ?_
      refine lv_iconst (v := 1) hx hb dX12_as_44 (by decide) ?_
      refine callIV (As := [.int 1]) (rest := []) (wr := [((q 8), .inl (g.2 0, 6, .inl a8))]) (Cn := RX12) C (g_refused l g h0 q i L 1) 1 gX12_as_X12_refused rfl (by decide +kernel) ⟨(Nat.le_of_ble_eq_true rfl), (Nat.le_of_ble_eq_true rfl)⟩ [1] [0] hP hD hA hS rfl rfl rfl rfl (by decide) (k := 1) (ci := 12) rfl rfl rfl rfl hl.1 rfl (Nat.le_of_ble_eq_true rfl) dX12_as_45 ⟨(Nat.le_of_ble_eq_true rfl), (Nat.le_of_ble_eq_true rfl)⟩ (fun r _u H locs hw hP hD hS => ?_)
      have hP : va_P g.1 vwCl [((q 8), .inl (g.2 0, 6, .inl a8)), (h0, .inr (12, mO q (upd i 0 0) L))] H := hP
      have hD : va_D A [((q 8), .inl (g.2 0, 6, .inl a8)), (h0, .inr (12, mO q (upd i 0 0) L))] := hD
      subst hw
      refine lv_goto (tgt := 56) hx hb dX12_as_48 (by decide) ?_
      have e90 : (o_g_as_0 i a8 cy k) = 0 := by unfold o_g_as_0; rw [if_pos c1, if_neg c2, if_neg c3]
      have hP : va_P g.1 vwCl [((q 8), .inl (g.2 0, 6, .inl a8)), (h0, .inr (12, mO q (upd i 0 (o_g_as_0 i a8 cy k)) L))] H := by rw [e90]; exact hP
      have hD : va_D A [((q 8), .inl (g.2 0, 6, .inl a8)), (h0, .inr (12, mO q (upd i 0 (o_g_as_0 i a8 cy k)) L))] := by rw [e90]; exact hD
      exact retI C hS () (by unfold r_g_as; rw [if_pos c1, if_neg c2, if_neg c3]) (hP.pick [1, 0] rfl) (hD.sub [1, 0] rfl rfl) (Nat.le_of_ble_eq_true rfl) (Nat.le_of_ble_eq_true rfl) dX12_as_56
    refine lv_aload_n hx hb dX12_as_26 rfl (lv_at hl 0 rfl) ?_
    refine lv_bipush (v := -2) hx hb dX12_as_27 (by decide) ?_
    refine callIV (As := [.int (-2)]) (rest := []) (wr := [((q 8), .inl (g.2 0, 6, .inl a8))]) (Cn := RX12) C (g_refused l g h0 q i L (-2)) 1 gX12_as_X12_refused rfl (by decide +kernel) ⟨(Nat.le_of_ble_eq_true rfl), (Nat.le_of_ble_eq_true rfl)⟩ [1] [0] hP hD hA hS rfl rfl rfl rfl (by decide) (k := 1) (ci := 12) rfl rfl rfl rfl hl.1 rfl (Nat.le_of_ble_eq_true rfl) dX12_as_29 ⟨(Nat.le_of_ble_eq_true rfl), (Nat.le_of_ble_eq_true rfl)⟩ (fun r _u H locs hw hP hD hS => ?_)
    have hP : va_P g.1 vwCl [((q 8), .inl (g.2 0, 6, .inl a8)), (h0, .inr (12, mO q (upd i 0 0) L))] H := hP
    have hD : va_D A [((q 8), .inl (g.2 0, 6, .inl a8)), (h0, .inr (12, mO q (upd i 0 0) L))] := hD
    subst hw
    have e90 : (o_g_as_0 i a8 cy k) = 0 := by unfold o_g_as_0; rw [if_pos c1, if_pos c2]
    have hP : va_P g.1 vwCl [((q 8), .inl (g.2 0, 6, .inl a8)), (h0, .inr (12, mO q (upd i 0 (o_g_as_0 i a8 cy k)) L))] H := by rw [e90]; exact hP
    have hD : va_D A [((q 8), .inl (g.2 0, 6, .inl a8)), (h0, .inr (12, mO q (upd i 0 (o_g_as_0 i a8 cy k)) L))] := by rw [e90]; exact hD
    exact retI C hS () (by unfold r_g_as; rw [if_pos c1, if_pos c2]) (hP.pick [1, 0] rfl) (hD.sub [1, 0] rfl rfl) (Nat.le_of_ble_eq_true rfl) (Nat.le_of_ble_eq_true rfl) dX12_as_32
  refine lv_aload_n hx hb dX12_as_8 rfl (lv_at hl 0 rfl) ?_
  refine lv_iconst (v := -1) hx hb dX12_as_9 (by decide) ?_
  refine callIV (As := [.int (-1)]) (rest := []) (wr := [((q 8), .inl (g.2 0, 6, .inl a8))]) (Cn := RX12) C (g_refused l g h0 q i L (-1)) 1 gX12_as_X12_refused rfl (by decide +kernel) ⟨(Nat.le_of_ble_eq_true rfl), (Nat.le_of_ble_eq_true rfl)⟩ [1] [0] hP hD hA hS rfl rfl rfl rfl (by decide) (k := 1) (ci := 12) rfl rfl rfl rfl hl.1 rfl (Nat.le_of_ble_eq_true rfl) dX12_as_10 ⟨(Nat.le_of_ble_eq_true rfl), (Nat.le_of_ble_eq_true rfl)⟩ (fun r _u H locs hw hP hD hS => ?_)
  have hP : va_P g.1 vwCl [((q 8), .inl (g.2 0, 6, .inl a8)), (h0, .inr (12, mO q (upd i 0 0) L))] H := hP
  have hD : va_D A [((q 8), .inl (g.2 0, 6, .inl a8)), (h0, .inr (12, mO q (upd i 0 0) L))] := hD
  subst hw
  have e90 : (o_g_as_0 i a8 cy k) = 0 := by unfold o_g_as_0; rw [if_neg c1]
  have hP : va_P g.1 vwCl [((q 8), .inl (g.2 0, 6, .inl a8)), (h0, .inr (12, mO q (upd i 0 (o_g_as_0 i a8 cy k)) L))] H := by rw [e90]; exact hP
  have hD : va_D A [((q 8), .inl (g.2 0, 6, .inl a8)), (h0, .inr (12, mO q (upd i 0 (o_g_as_0 i a8 cy k)) L))] := by rw [e90]; exact hD
  exact retI C hS () (by unfold r_g_as; rw [if_neg c1]) (hP.pick [1, 0] rfl) (hD.sub [1, 0] rfl rfl) (Nat.le_of_ble_eq_true rfl) (Nat.le_of_ble_eq_true rfl) dX12_as_13
def MCI (i a9 a10 a12 : Nat → Int32) : Prop := ∀ c : Nat, (c : Int) < (i 7).toInt → (1 ≤ (a9 c).toInt ∧ (a9 c).toInt ≤ 100) ∧ (1 ≤ (a10 c).toInt ∧ (a10 c).toInt ≤ 100) ∧ 1 ≤ (a12 c).toInt ∧ (a12 c).toInt ≤ 10
theorem cl_nat {cy : Int32} {n : Nat} (h : vp_in cy n) : ((cy.toNatClampNeg : Nat) : Int) = cy.toInt := by
  have h1 := (vp_in_iff.mp h).1
  show ((cy.toInt.toNat : Nat) : Int) = cy.toInt
  omega
theorem mul_toInt {a b : Int32} (ha : 1 ≤ a.toInt ∧ a.toInt ≤ 100) (hb : 1 ≤ b.toInt ∧ b.toInt ≤ 100) : (a * b).toInt = a.toInt * b.toInt ∧ 1 ≤ a.toInt * b.toInt ∧ a.toInt * b.toInt ≤ 10000 := by
  have h1 : a.toInt * b.toInt ≤ 100 * 100 := Int.mul_le_mul ha.2 hb.2 (by omega) (by omega)
  have h2 : 1 * 1 ≤ a.toInt * b.toInt := Int.mul_le_mul ha.1 hb.1 (by omega) (by omega)
  refine ⟨?_, by omega, by omega⟩
  rw [Int32.toInt_mul, Int.bmod_eq_of_le] <;> omega
theorem room_ne {i a9 a10 a12 : Nat → Int32} {cy : Int32} (hM : MCI i a9 a10 a12) (hc : vp_in cy 6) (hlt : cy.toInt < (i 7).toInt) : ¬ a9 (cy.toNatClampNeg) * a10 (cy.toNatClampNeg) = 0 := by
  have h := hM cy.toNatClampNeg (by rw [cl_nat hc]; exact hlt)
  have h2 := mul_toInt h.1 h.2.1
  intro e
  rw [e, Int32.toInt_zero] at h2
  omega
theorem area_ne {i a9 a10 a12 : Nat → Int32} {cy : Int32} (hM : MCI i a9 a10 a12) (hc : vp_in cy 6) (hlt : cy.toInt < (i 7).toInt) : ¬ a9 (cy.toNatClampNeg) = 0 := by
  have h := hM cy.toNatClampNeg (by rw [cl_nat hc]; exact hlt)
  intro e
  rw [e, Int32.toInt_zero] at h
  omega
theorem in_lt {x y : Int32} {n : Nat} (hy : 0 ≤ y.toInt ∧ y.toInt ≤ n) (h : ¬ r_c_in x.toInt64 0 (y.toInt64 - 1) = 0) : vp_in x n := by
  rw [in_eq] at h
  have h1 := Int32.toInt_lt y
  have e : (y.toInt64 - 1).toInt = y.toInt - 1 := by
    rw [Int64.toInt_sub, Int32.toInt_toInt64, show (1 : Int64).toInt = 1 from by decide, Int.bmod_eq_of_le] <;> omega
  rw [e, Int32.toInt_toInt64, show (0 : Int64).toInt = 0 from by decide] at h
  rw [vp_in_iff]
  by_cases h2 : 0 ≤ x.toInt ∧ x.toInt ≤ y.toInt - 1
  · omega
  · rw [if_neg h2] at h; exact absurd rfl h
theorem at_full {x y : Int32} {n : Nat} (hy : y.toInt = n) (hx : 0 ≤ x.toInt ∧ x.toInt ≤ n) (h : ¬ x = y) : vp_in x n := by
  rw [vp_in_iff]
  have : ¬ x.toInt = y.toInt := fun e => h (Int32.toInt_inj.mp e)
  omega
theorem hg_X12_storePressure_X12 : ∀ w ∈ wsX120, w ∈ wsX12_storePressure := fun w h => List.mem_cons_of_mem _ (List.mem_append_right _ h)
set_option maxRecDepth 100000 in
set_option maxHeartbeats 4000000 in
theorem g_storePressure (l : Launch) (g : Gt) (h0 : Nat) (q : Nat → Nat) (i : Nat → Int32) (L : Nat → Int64) (h22 : ¬ (i 22) = 0) : Ctr l g yX12_storePressure wsX12_storePressure ({ frames := 0, cells := 0, slots := 0, locals := 0 } : Room) [.ref h0] [(h0, .inr (12, mO q i L))] (fun A => QI g A (fun r (_ : Unit) => r = ((i 21) + ((i 23) / (i 22)))) (fun _u : Unit => [(h0, .inr (12, mO q i L))])) := by
  refine Ctr.of (cc := cX12_storePressure) (maxL := 1) (ret := (some .int)) (by decide) rfl (Nat.le_of_ble_eq_true rfl) ?_
  intro p e s m below meth c A ls H C hP hD hA hS hl
  obtain ⟨hx, hb, hr, hts, hown, hlocks, hml, hin, hKN⟩ := id C
  have hK := hKN.1
  have hN := hKN.2
  have F : CallFix p m c cX12_storePressure 1 s _ wsX12_storePressure yX12_storePressure.cls := ⟨hx, hb, hml, hown, hts⟩
  have hl : lv_has ls 1 [(0, .ref h0)] := hl
  refine lv_aload_n hx hb dX12_storePressure_0 rfl (lv_at hl 0 rfl) ?_
  refine va_get (D := g.1) (ci := 12) (v := .int (i 21)) (C := RX12) (T := TX12) (N := 66) hx hb hts hg_X12_storePressure_X12 hown hK hP 0 rfl rfl 21 (by decide) (hts (.fieldLink RX12 209 "OilPushModel" "first" "I") (List.mem_of_getElem? (i := 1) rfl)) (fun _ h => h) rfl dX12_storePressure_1 ?_
  refine lv_aload_n hx hb dX12_storePressure_4 rfl (lv_at hl 0 rfl) ?_
  refine va_get (D := g.1) (ci := 12) (v := .int (i 23)) (C := RX12) (T := TX12) (N := 66) hx hb hts hg_X12_storePressure_X12 hown hK hP 0 rfl rfl 23 (by decide) (hts (.fieldLink RX12 203 "OilPushModel" "kept" "I") (List.mem_of_getElem? (i := 2) rfl)) (fun _ h => h) rfl dX12_storePressure_5 ?_
  refine lv_aload_n hx hb dX12_storePressure_8 rfl (lv_at hl 0 rfl) ?_
  refine va_get (D := g.1) (ci := 12) (v := .int (i 22)) (C := RX12) (T := TX12) (N := 66) hx hb hts hg_X12_storePressure_X12 hown hK hP 0 rfl rfl 22 (by decide) (hts (.fieldLink RX12 133 "OilPushModel" "stiff" "I") (List.mem_of_getElem? (i := 3) rfl)) (fun _ h => h) rfl dX12_storePressure_9 ?_
  refine lv_idiv hx hb dX12_storePressure_12 h22 ?_
  refine lv_iadd hx hb dX12_storePressure_13 ?_
  exact retI C hS () rfl (hP.pick [0] rfl) (hD.sub [0] rfl rfl) (Nat.le_of_ble_eq_true rfl) (Nat.le_of_ble_eq_true rfl) dX12_storePressure_14
theorem hg_X12_sum_X12 : ∀ w ∈ wsX120, w ∈ wsX12_sum := fun w h => List.mem_cons_of_mem _ (List.mem_append_right _ h)
def r_g_sum (i : Nat → Int32) (L : Nat → Int64) (what : Int32) : Int64 := (if what = 0 then (L 37) else (if what = 1 then (L 38) else (if what = 2 then (L 39) else (if what = 3 then (Int32.toInt64 (i 23)) else (if what = 4 then (Int32.toInt64 ((i 21) + ((i 23) / (i 22)))) else (-9223372036854775808))))))
set_option maxRecDepth 100000 in
set_option maxHeartbeats 4000000 in
theorem g_sum (l : Launch) (g : Gt) (h0 : Nat) (q : Nat → Nat) (i : Nat → Int32) (L : Nat → Int64) (what : Int32) (h22 : ¬ (i 22) = 0) : Ctr l g yX12_sum wsX12_sum ({ frames := 1, cells := 0, slots := 0, locals := 20 } : Room) [.ref h0, .int what] [(h0, .inr (12, mO q i L))] (fun A => QL g A (fun r (_ : Unit) => r = (r_g_sum i L what)) (fun _u : Unit => [(h0, .inr (12, mO q i L))])) := by
  refine Ctr.of (cc := cX12_sum) (maxL := 2) (ret := (some .long)) (by decide) rfl (Nat.le_of_ble_eq_true rfl) ?_
  intro p e s m below meth c A ls H C hP hD hA hS hl
  obtain ⟨hx, hb, hr, hts, hown, hlocks, hml, hin, hKN⟩ := id C
  have hK := hKN.1
  have hN := hKN.2
  have F : CallFix p m c cX12_sum 2 s _ wsX12_sum yX12_sum.cls := ⟨hx, hb, hml, hown, hts⟩
  have hl : lv_has ls 2 [(0, .ref h0), (1, .int what)] := hl
  refine lv_iload_n hx hb dX12_sum_0 rfl (lv_at hl 1 rfl) ?_
  by_cases w1 : what = 0
  · refine lv_tableIn (tgt := 36) (off := 35) hx hb dX12_sum_1 (by rw [w1]; decide) (by rw [w1]; decide) (by rw [w1]; rfl) (by decide) ?_
    refine lv_aload_n hx hb dX12_sum_36 rfl (lv_at hl 0 rfl) ?_
    refine va_get (D := g.1) (ci := 12) (v := .long (L 37)) (C := RX12) (T := TX12) (N := 66) hx hb hts hg_X12_sum_X12 hown hK hP 0 rfl rfl 37 (by decide) (hts (.fieldLink RX12 259 "OilPushModel" "heat" "J") (List.mem_of_getElem? (i := 1) rfl)) (fun _ h => h) rfl dX12_sum_37 ?_
    exact retL C hS () (by unfold r_g_sum; rw [if_pos w1]) (hP.pick [0] rfl) (hD.sub [0] rfl rfl) (Nat.le_of_ble_eq_true rfl) (Nat.le_of_ble_eq_true rfl) dX12_sum_40
  by_cases w2 : what = 1
  · refine lv_tableIn (tgt := 41) (off := 40) hx hb dX12_sum_1 (by rw [w2]; decide) (by rw [w2]; decide) (by rw [w2]; rfl) (by decide) ?_
    refine lv_aload_n hx hb dX12_sum_41 rfl (lv_at hl 0 rfl) ?_
    refine va_get (D := g.1) (ci := 12) (v := .long (L 38)) (C := RX12) (T := TX12) (N := 66) hx hb hts hg_X12_sum_X12 hown hK hP 0 rfl rfl 38 (by decide) (hts (.fieldLink RX12 263 "OilPushModel" "work" "J") (List.mem_of_getElem? (i := 2) rfl)) (fun _ h => h) rfl dX12_sum_42 ?_
    exact retL C hS () (by unfold r_g_sum; rw [if_neg w1, if_pos w2]) (hP.pick [0] rfl) (hD.sub [0] rfl rfl) (Nat.le_of_ble_eq_true rfl) (Nat.le_of_ble_eq_true rfl) dX12_sum_45
  by_cases w3 : what = 2
  · refine lv_tableIn (tgt := 46) (off := 45) hx hb dX12_sum_1 (by rw [w3]; decide) (by rw [w3]; decide) (by rw [w3]; rfl) (by decide) ?_
    refine lv_aload_n hx hb dX12_sum_46 rfl (lv_at hl 0 rfl) ?_
    refine va_get (D := g.1) (ci := 12) (v := .long (L 39)) (C := RX12) (T := TX12) (N := 66) hx hb hts hg_X12_sum_X12 hown hK hP 0 rfl rfl 39 (by decide) (hts (.fieldLink RX12 266 "OilPushModel" "given" "J") (List.mem_of_getElem? (i := 3) rfl)) (fun _ h => h) rfl dX12_sum_47 ?_
    exact retL C hS () (by unfold r_g_sum; rw [if_neg w1, if_neg w2, if_pos w3]) (hP.pick [0] rfl) (hD.sub [0] rfl rfl) (Nat.le_of_ble_eq_true rfl) (Nat.le_of_ble_eq_true rfl) dX12_sum_50
  by_cases w4 : what = 3
  · refine lv_tableIn (tgt := 51) (off := 50) hx hb dX12_sum_1 (by rw [w4]; decide) (by rw [w4]; decide) (by rw [w4]; rfl) (by decide) ?_
    refine lv_aload_n hx hb dX12_sum_51 rfl (lv_at hl 0 rfl) ?_
    refine va_get (D := g.1) (ci := 12) (v := .int (i 23)) (C := RX12) (T := TX12) (N := 66) hx hb hts hg_X12_sum_X12 hown hK hP 0 rfl rfl 23 (by decide) (hts (.fieldLink RX12 203 "OilPushModel" "kept" "I") (List.mem_of_getElem? (i := 4) rfl)) (fun _ h => h) rfl dX12_sum_52 ?_
    refine lv_i2l hx hb dX12_sum_55 rfl ?_
    exact retL C hS () (by unfold r_g_sum; rw [if_neg w1, if_neg w2, if_neg w3, if_pos w4]) (hP.pick [0] rfl) (hD.sub [0] rfl rfl) (Nat.le_of_ble_eq_true rfl) (Nat.le_of_ble_eq_true rfl) dX12_sum_56
  by_cases w5 : what = 4
  · refine lv_tableIn (tgt := 57) (off := 56) hx hb dX12_sum_1 (by rw [w5]; decide) (by rw [w5]; decide) (by rw [w5]; rfl) (by decide) ?_
    refine lv_aload_n hx hb dX12_sum_57 rfl (lv_at hl 0 rfl) ?_
    refine callIV (As := []) (rest := []) (wr := []) (Cn := RX12) C (g_storePressure l g h0 q i L h22) 0 gX12_sum_X12_storePressure rfl (by decide +kernel) ⟨(Nat.le_of_ble_eq_true rfl), (Nat.le_of_ble_eq_true rfl)⟩ [0] [] hP hD hA hS rfl rfl rfl rfl (by decide) (k := 0) (ci := 12) rfl rfl rfl rfl hl.1 rfl (Nat.le_of_ble_eq_true rfl) dX12_sum_58 ⟨(Nat.le_of_ble_eq_true rfl), (Nat.le_of_ble_eq_true rfl)⟩ (fun r _u H locs hw hP hD hS => ?_)
    have hP : va_P g.1 vwCl [(h0, .inr (12, mO q i L))] H := hP
    have hD : va_D A [(h0, .inr (12, mO q i L))] := hD
    subst hw
    refine lv_i2l hx hb dX12_sum_61 rfl ?_
    exact retL C hS () (by unfold r_g_sum; rw [if_neg w1, if_neg w2, if_neg w3, if_neg w4, if_pos w5]) (hP.pick [0] rfl) (hD.sub [0] rfl rfl) (Nat.le_of_ble_eq_true rfl) (Nat.le_of_ble_eq_true rfl) dX12_sum_62
  refine lv_tableOut (tgt := 63) hx hb dX12_sum_1 (sw4 w1 w2 w3 w4 w5) (by decide) ?_
  refine pureLS (As := []) (rest := []) F (c_lost l) 0 gX12_sum_X12_lost rfl (by decide +kernel) rfl rfl ⟨(Nat.le_of_ble_eq_true rfl), (Nat.le_of_ble_eq_true rfl)⟩ (Nat.le_of_ble_eq_true rfl) (Nat.le_of_ble_eq_true rfl) rfl hl.1 rfl (Nat.le_of_ble_eq_true rfl) dX12_sum_63 ?_
  exact retL C hS () (by unfold r_g_sum; rw [if_neg w1, if_neg w2, if_neg w3, if_neg w4, if_neg w5]) (hP.pick [0] rfl) (hD.sub [0] rfl rfl) (Nat.le_of_ble_eq_true rfl) (Nat.le_of_ble_eq_true rfl) dX12_sum_66
theorem hg_X12_mover_X12 : ∀ w ∈ wsX120, w ∈ wsX12_mover := fun w h => List.mem_cons_of_mem _ (List.mem_append_right _ h)
def r_g_mover (i : Nat → Int32) (a36 : Nat → Int32) (ii : Int32) : Int32 := (if (r_c_in (Int32.toInt64 ii) 0 ((Int32.toInt64 (i 35)) - 1)) = 0 then (-1) else (a36 (ii.toNatClampNeg)))
set_option maxRecDepth 100000 in
set_option maxHeartbeats 4000000 in
theorem g_mover (l : Launch) (g : Gt) (h0 : Nat) (q : Nat → Nat) (i : Nat → Int32) (L : Nat → Int64) (a36 : Nat → Int32) (ii : Int32) (h35 : 0 ≤ (i 35).toInt ∧ (i 35).toInt ≤ 6) : Ctr l g yX12_mover wsX12_mover ({ frames := 1, cells := 0, slots := 0, locals := 25 } : Room) [.ref h0, .int ii] [(h0, .inr (12, mO q i L)), ((q 36), .inl (g.2 0, 6, .inl a36))] (fun A => QI g A (fun r (_ : Unit) => r = (r_g_mover i a36 ii)) (fun _u : Unit => [(h0, .inr (12, mO q i L)), ((q 36), .inl (g.2 0, 6, .inl a36))])) := by
  refine Ctr.of (cc := cX12_mover) (maxL := 2) (ret := (some .int)) (by decide) rfl (Nat.le_of_ble_eq_true rfl) ?_
  intro p e s m below meth c A ls H C hP hD hA hS hl
  obtain ⟨hx, hb, hr, hts, hown, hlocks, hml, hin, hKN⟩ := id C
  have hK := hKN.1
  have hN := hKN.2
  have F : CallFix p m c cX12_mover 2 s _ wsX12_mover yX12_mover.cls := ⟨hx, hb, hml, hown, hts⟩
  have hl : lv_has ls 2 [(0, .ref h0), (1, .int ii)] := hl
  refine lv_iload_n hx hb dX12_mover_0 rfl (lv_at hl 1 rfl) ?_
  refine lv_i2l hx hb dX12_mover_1 rfl ?_
  refine lv_lconst (v := 0) hx hb dX12_mover_2 (by decide) ?_
  refine lv_aload_n hx hb dX12_mover_3 rfl (lv_at hl 0 rfl) ?_
  refine va_get (D := g.1) (ci := 12) (v := .int (i 35)) (C := RX12) (T := TX12) (N := 66) hx hb hts hg_X12_mover_X12 hown hK hP 0 rfl rfl 35 (by decide) (hts (.fieldLink RX12 246 "OilPushModel" "movers" "I") (List.mem_of_getElem? (i := 1) rfl)) (fun _ h => h) rfl dX12_mover_4 ?_
  refine lv_i2l hx hb dX12_mover_7 rfl ?_
  refine lv_lconst (v := 1) hx hb dX12_mover_8 (by decide) ?_
  refine lv_lsub hx hb dX12_mover_9 ?_
  refine pureIS (As := [.long (Int32.toInt64 ii), .long 0, .long ((Int32.toInt64 (i 35)) - 1)]) (rest := []) F (c_in l (Int32.toInt64 ii) 0 ((Int32.toInt64 (i 35)) - 1)) 3 gX12_mover_X12_in rfl (by decide +kernel) rfl rfl ⟨(Nat.le_of_ble_eq_true rfl), (Nat.le_of_ble_eq_true rfl)⟩ (Nat.le_of_ble_eq_true rfl) (Nat.le_of_ble_eq_true rfl) rfl hl.1 rfl (Nat.le_of_ble_eq_true rfl) dX12_mover_10 ?_
  refine lv_if_eq (tgt := 25) hx hb dX12_mover_13 (by decide) (fun c1 => ?_) (fun c1 => ?_)
  · refine lv_iconst (v := -1) hx hb dX12_mover_25 (by decide) ?_
    exact retI C hS () (by unfold r_g_mover; rw [if_pos c1]) (hP.pick [0, 1] rfl) (hD.sub [0, 1] rfl rfl) (Nat.le_of_ble_eq_true rfl) (Nat.le_of_ble_eq_true rfl) dX12_mover_26
  refine lv_aload_n hx hb dX12_mover_16 rfl (lv_at hl 0 rfl) ?_
  refine va_get (D := g.1) (ci := 12) (v := .ref (q 36)) (C := RX12) (T := TX12) (N := 66) hx hb hts hg_X12_mover_X12 hown hK hP 0 rfl rfl 36 (by decide) (hts (.fieldLink RX12 71 "OilPushModel" "mover" "[I") (List.mem_of_getElem? (i := 2) rfl)) (fun _ h => h) rfl dX12_mover_17 ?_
  refine lv_iload_n hx hb dX12_mover_20 rfl (lv_at hl 1 rfl) ?_
  refine va_iald hx hb hK hP 1 0 rfl rfl (in_lt h35 c1) dX12_mover_21 ?_
  refine lv_goto (tgt := 26) hx hb dX12_mover_22 (by decide) ?_
  exact retI C hS () (by unfold r_g_mover; rw [if_neg c1]) (hP.pick [0, 1] rfl) (hD.sub [0, 1] rfl rfl) (Nat.le_of_ble_eq_true rfl) (Nat.le_of_ble_eq_true rfl) dX12_mover_26
theorem hg_X12_burst_X12 : ∀ w ∈ wsX120, w ∈ wsX12_burst := fun w h => List.mem_cons_of_mem _ (List.mem_append_right _ h)
def r_g_burst (i : Nat → Int32) (a18 : Nat → Int32) (cy : Int32) (v : Int32) : Int32 := (if (r_g_noCylinder i cy) = 0 then (if (a18 (cy.toNatClampNeg)) = v then 0 else 1) else (-1))
def o_g_burst_q18 (i : Nat → Int32) (a18 : Nat → Int32) (cy : Int32) (v : Int32) : Nat → Int32 := (if (r_g_noCylinder i cy) = 0 then (if (a18 (cy.toNatClampNeg)) = v then (upd a18 (cy.toNatClampNeg) (vp_nar .boolean v)) else (upd a18 (cy.toNatClampNeg) (vp_nar .boolean v))) else a18)
set_option maxRecDepth 100000 in
set_option maxHeartbeats 4000000 in
theorem g_burst (l : Launch) (g : Gt) (h0 : Nat) (q : Nat → Nat) (i : Nat → Int32) (L : Nat → Int64) (a18 : Nat → Int32) (cy : Int32) (v : Int32) (h7 : 0 ≤ (i 7).toInt ∧ (i 7).toInt ≤ 6) : Ctr l g yX12_burst wsX12_burst ({ frames := 2, cells := 0, slots := 0, locals := 46 } : Room) [.ref h0, .int cy, .int v] [(h0, .inr (12, mO q i L)), ((q 18), .inl (g.2 1, 6, .inl a18))] (fun A => QI g A (fun r (_ : Unit) => r = (r_g_burst i a18 cy v)) (fun _u : Unit => [(h0, .inr (12, mO q i L)), ((q 18), .inl (g.2 1, 6, .inl (o_g_burst_q18 i a18 cy v)))])) := by
  refine Ctr.of (cc := cX12_burst) (maxL := 4) (ret := (some .int)) (by decide) rfl (Nat.le_of_ble_eq_true rfl) ?_
  intro p e s m below meth c A ls H C hP hD hA hS hl
  obtain ⟨hx, hb, hr, hts, hown, hlocks, hml, hin, hKN⟩ := id C
  have hK := hKN.1
  have hN := hKN.2
  have F : CallFix p m c cX12_burst 4 s _ wsX12_burst yX12_burst.cls := ⟨hx, hb, hml, hown, hts⟩
  have hl : lv_has ls 4 [(0, .ref h0), (1, .int cy), (2, .int v)] := hl
  refine lv_aload_n hx hb dX12_burst_0 rfl (lv_at hl 0 rfl) ?_
  refine lv_iload_n hx hb dX12_burst_1 rfl (lv_at hl 1 rfl) ?_
  refine callIV (As := [.int cy]) (rest := []) (wr := [((q 18), .inl (g.2 1, 6, .inl a18))]) (Cn := RX12) C (g_noCylinder l g h0 q i L cy) 1 gX12_burst_X12_noCylinder rfl (by decide +kernel) ⟨(Nat.le_of_ble_eq_true rfl), (Nat.le_of_ble_eq_true rfl)⟩ [0] [1] hP hD hA hS rfl rfl rfl rfl (by decide) (k := 0) (ci := 12) rfl rfl rfl rfl hl.1 rfl (Nat.le_of_ble_eq_true rfl) dX12_burst_2 ⟨(Nat.le_of_ble_eq_true rfl), (Nat.le_of_ble_eq_true rfl)⟩ (fun r _u H locs hw hP hD hS => ?_)
  have hP : va_P g.1 vwCl [((q 18), .inl (g.2 1, 6, .inl a18)), (h0, .inr (12, mO q i L))] H := hP
  have hD : va_D A [((q 18), .inl (g.2 1, 6, .inl a18)), (h0, .inr (12, mO q i L))] := hD
  subst hw
  refine lv_if_eq (tgt := 10) hx hb dX12_burst_5 (by decide) (fun c1 => ?_) (fun c1 => ?_)
  · refine lv_aload_n hx hb dX12_burst_10 rfl (lv_at hl 0 rfl) ?_
    refine va_get (D := g.1) (ci := 12) (v := .ref (q 18)) (C := RX12) (T := TX12) (N := 66) hx hb hts hg_X12_burst_X12 hown hK hP 1 rfl rfl 18 (by decide) (hts (.fieldLink RX12 52 "OilPushModel" "isBurst" "[Z") (List.mem_of_getElem? (i := 1) rfl)) (fun _ h => h) rfl dX12_burst_11 ?_
    refine lv_iload_n hx hb dX12_burst_14 rfl (lv_at hl 1 rfl) ?_
    refine va_zald hx hb hK hP 0 1 rfl rfl (noCyl_in h7 c1).1 dX12_burst_15 ?_
    refine lv_iload_n hx hb dX12_burst_16 rfl (lv_at hl 2 rfl) ?_
    refine lv_icmp_eq (tgt := 24) hx hb dX12_burst_17 (by decide) (fun c2 => ?_) (fun c2 => ?_)
    · refine lv_iconst (v := 0) hx hb dX12_burst_24 (by decide) ?_
      refine lv_istore_n (lv' := [(3, .int 0), (0, .ref h0), (1, .int cy), (2, .int v)]) hx hb dX12_burst_25 rfl hl (by decide) rfl (fun ls hl => ?_)
      refine lv_aload_n hx hb dX12_burst_26 rfl (lv_at hl 1 rfl) ?_
      refine va_get (D := g.1) (ci := 12) (v := .ref (q 18)) (C := RX12) (T := TX12) (N := 66) hx hb hts hg_X12_burst_X12 hown hK hP 1 rfl rfl 18 (by decide) (hts (.fieldLink RX12 52 "OilPushModel" "isBurst" "[Z") (List.mem_of_getElem? (i := 1) rfl)) (fun _ h => h) rfl dX12_burst_27 ?_
      refine lv_iload_n hx hb dX12_burst_30 rfl (lv_at hl 2 rfl) ?_
      refine lv_iload_n hx hb dX12_burst_31 rfl (lv_at hl 3 rfl) ?_
      refine va_zast hx hb hK hP hD hS 0 1 rfl rfl (noCyl_in h7 c1).1 dX12_burst_32 (fun H locs hP hD hS => ?_)
      have hP : va_P g.1 vwCl [((q 18), .inl (g.2 1, 6, .inl (upd a18 (cy.toNatClampNeg) (vp_nar .boolean v)))), (h0, .inr (12, mO q i L))] H := hP
      have hD : va_D A [((q 18), .inl (g.2 1, 6, .inl (upd a18 (cy.toNatClampNeg) (vp_nar .boolean v)))), (h0, .inr (12, mO q i L))] := hD
      refine lv_iload_n hx hb dX12_burst_33 rfl (lv_at hl 0 rfl) ?_
      refine lv_if_eq (tgt := 41) hx hb dX12_burst_34 (by decide) (fun _ => ?_) (fun cc0 => absurd cc0 (by decide))
      refine lv_iconst (v := 0) hx hb dX12_burst_41 (by decide) ?_
      have e90 : (o_g_burst_q18 i a18 cy v) = (upd a18 (cy.toNatClampNeg) (vp_nar .boolean v)) := by unfold o_g_burst_q18; rw [if_pos c1, if_pos c2]
      have hP : va_P g.1 vwCl [((q 18), .inl (g.2 1, 6, .inl (o_g_burst_q18 i a18 cy v))), (h0, .inr (12, mO q i L))] H := by rw [e90]; exact hP
      have hD : va_D A [((q 18), .inl (g.2 1, 6, .inl (o_g_burst_q18 i a18 cy v))), (h0, .inr (12, mO q i L))] := by rw [e90]; exact hD
      exact retI C hS () (by unfold r_g_burst; rw [if_pos c1, if_pos c2]) (hP.pick [1, 0] rfl) (hD.sub [1, 0] rfl rfl) (Nat.le_of_ble_eq_true rfl) (Nat.le_of_ble_eq_true rfl) dX12_burst_42
    refine lv_iconst (v := 1) hx hb dX12_burst_20 (by decide) ?_
    refine lv_goto (tgt := 25) hx hb dX12_burst_21 (by decide) ?_
    refine lv_istore_n (lv' := [(3, .int 1), (0, .ref h0), (1, .int cy), (2, .int v)]) hx hb dX12_burst_25 rfl hl (by decide) rfl (fun ls hl => ?_)
    refine lv_aload_n hx hb dX12_burst_26 rfl (lv_at hl 1 rfl) ?_
    refine va_get (D := g.1) (ci := 12) (v := .ref (q 18)) (C := RX12) (T := TX12) (N := 66) hx hb hts hg_X12_burst_X12 hown hK hP 1 rfl rfl 18 (by decide) (hts (.fieldLink RX12 52 "OilPushModel" "isBurst" "[Z") (List.mem_of_getElem? (i := 1) rfl)) (fun _ h => h) rfl dX12_burst_27 ?_
    refine lv_iload_n hx hb dX12_burst_30 rfl (lv_at hl 2 rfl) ?_
    refine lv_iload_n hx hb dX12_burst_31 rfl (lv_at hl 3 rfl) ?_
    refine va_zast hx hb hK hP hD hS 0 1 rfl rfl (noCyl_in h7 c1).1 dX12_burst_32 (fun H locs hP hD hS => ?_)
    have hP : va_P g.1 vwCl [((q 18), .inl (g.2 1, 6, .inl (upd a18 (cy.toNatClampNeg) (vp_nar .boolean v)))), (h0, .inr (12, mO q i L))] H := hP
    have hD : va_D A [((q 18), .inl (g.2 1, 6, .inl (upd a18 (cy.toNatClampNeg) (vp_nar .boolean v)))), (h0, .inr (12, mO q i L))] := hD
    refine lv_iload_n hx hb dX12_burst_33 rfl (lv_at hl 0 rfl) ?_
    refine lv_if_eq (tgt := 41) hx hb dX12_burst_34 (by decide) (fun cc0 => absurd cc0 (by decide)) (fun _ => ?_)
    refine lv_iconst (v := 1) hx hb dX12_burst_37 (by decide) ?_
    refine lv_goto (tgt := 42) hx hb dX12_burst_38 (by decide) ?_
    have e90 : (o_g_burst_q18 i a18 cy v) = (upd a18 (cy.toNatClampNeg) (vp_nar .boolean v)) := by unfold o_g_burst_q18; rw [if_pos c1, if_neg c2]
    have hP : va_P g.1 vwCl [((q 18), .inl (g.2 1, 6, .inl (o_g_burst_q18 i a18 cy v))), (h0, .inr (12, mO q i L))] H := by rw [e90]; exact hP
    have hD : va_D A [((q 18), .inl (g.2 1, 6, .inl (o_g_burst_q18 i a18 cy v))), (h0, .inr (12, mO q i L))] := by rw [e90]; exact hD
    exact retI C hS () (by unfold r_g_burst; rw [if_pos c1, if_neg c2]) (hP.pick [1, 0] rfl) (hD.sub [1, 0] rfl rfl) (Nat.le_of_ble_eq_true rfl) (Nat.le_of_ble_eq_true rfl) dX12_burst_42
  refine lv_iconst (v := -1) hx hb dX12_burst_8 (by decide) ?_
  have e90 : (o_g_burst_q18 i a18 cy v) = a18 := by unfold o_g_burst_q18; rw [if_neg c1]
  have hP : va_P g.1 vwCl [((q 18), .inl (g.2 1, 6, .inl (o_g_burst_q18 i a18 cy v))), (h0, .inr (12, mO q i L))] H := by rw [e90]; exact hP
  have hD : va_D A [((q 18), .inl (g.2 1, 6, .inl (o_g_burst_q18 i a18 cy v))), (h0, .inr (12, mO q i L))] := by rw [e90]; exact hD
  exact retI C hS () (by unfold r_g_burst; rw [if_neg c1]) (hP.pick [1, 0] rfl) (hD.sub [1, 0] rfl rfl) (Nat.le_of_ble_eq_true rfl) (Nat.le_of_ble_eq_true rfl) dX12_burst_9
theorem hg_X12_mayBeDone_X12 : ∀ w ∈ wsX120, w ∈ wsX12_mayBeDone := fun w h => List.mem_cons_of_mem _ (List.mem_append_right _ h)
def r_g_mayBeDone (a25 : Nat → Int32) (a26 : Nat → Int32) (a11 : Nat → Int32) (a9 : Nat → Int32) (a10 : Nat → Int32) (k : Int32) : Int32 := (if (a26 (k.toNatClampNeg)) = 0 then 1 else (if (a26 (k.toNatClampNeg)) = 1 then (if (a11 ((a25 (k.toNatClampNeg)).toNatClampNeg)) = ((a9 ((a25 (k.toNatClampNeg)).toNatClampNeg)) * (a10 ((a25 (k.toNatClampNeg)).toNatClampNeg))) then 1 else 0) else (if (a11 ((a25 (k.toNatClampNeg)).toNatClampNeg)) = 0 then 1 else 0)))
set_option maxRecDepth 100000 in
set_option maxHeartbeats 4000000 in
theorem g_mayBeDone (l : Launch) (g : Gt) (h0 : Nat) (q : Nat → Nat) (i : Nat → Int32) (L : Nat → Int64) (a25 : Nat → Int32) (a26 : Nat → Int32) (a11 : Nat → Int32) (a9 : Nat → Int32) (a10 : Nat → Int32) (k : Int32) (hk : vp_in k 30) (hc : vp_in (a25 (k.toNatClampNeg)) 6) : Ctr l g yX12_mayBeDone wsX12_mayBeDone ({ frames := 1, cells := 0, slots := 0, locals := 21 } : Room) [.ref h0, .int k] [(h0, .inr (12, mO q i L)), ((q 25), .inl (g.2 0, 30, .inl a25)), ((q 26), .inl (g.2 0, 30, .inl a26)), ((q 11), .inl (g.2 0, 6, .inl a11)), ((q 9), .inl (g.2 0, 6, .inl a9)), ((q 10), .inl (g.2 0, 6, .inl a10))] (fun A => QI g A (fun r (_ : Unit) => r = (r_g_mayBeDone a25 a26 a11 a9 a10 k)) (fun _u : Unit => [(h0, .inr (12, mO q i L)), ((q 25), .inl (g.2 0, 30, .inl a25)), ((q 26), .inl (g.2 0, 30, .inl a26)), ((q 11), .inl (g.2 0, 6, .inl a11)), ((q 9), .inl (g.2 0, 6, .inl a9)), ((q 10), .inl (g.2 0, 6, .inl a10))])) := by
  refine Ctr.of (cc := cX12_mayBeDone) (maxL := 3) (ret := (some .boolean)) (by decide) rfl (Nat.le_of_ble_eq_true rfl) ?_
  intro p e s m below meth c A ls H C hP hD hA hS hl
  obtain ⟨hx, hb, hr, hts, hown, hlocks, hml, hin, hKN⟩ := id C
  have hK := hKN.1
  have hN := hKN.2
  have F : CallFix p m c cX12_mayBeDone 3 s _ wsX12_mayBeDone yX12_mayBeDone.cls := ⟨hx, hb, hml, hown, hts⟩
  have hl : lv_has ls 3 [(0, .ref h0), (1, .int k)] := hl
  refine lv_aload_n hx hb dX12_mayBeDone_0 rfl (lv_at hl 0 rfl) ?_
  refine va_get (D := g.1) (ci := 12) (v := .ref (q 25)) (C := RX12) (T := TX12) (N := 66) hx hb hts hg_X12_mayBeDone_X12 hown hK hP 0 rfl rfl 25 (by decide) (hts (.fieldLink RX12 59 "OilPushModel" "orderC" "[I") (List.mem_of_getElem? (i := 1) rfl)) (fun _ h => h) rfl dX12_mayBeDone_1 ?_
  refine lv_iload_n hx hb dX12_mayBeDone_4 rfl (lv_at hl 1 rfl) ?_
  refine va_iald hx hb hK hP 1 0 rfl rfl hk dX12_mayBeDone_5 ?_
  refine lv_istore_n (lv' := [(2, .int (a25 (k.toNatClampNeg))), (0, .ref h0), (1, .int k)]) hx hb dX12_mayBeDone_6 rfl hl (by decide) rfl (fun ls hl => ?_)
  refine lv_aload_n hx hb dX12_mayBeDone_7 rfl (lv_at hl 1 rfl) ?_
  refine va_get (D := g.1) (ci := 12) (v := .ref (q 26)) (C := RX12) (T := TX12) (N := 66) hx hb hts hg_X12_mayBeDone_X12 hown hK hP 0 rfl rfl 26 (by decide) (hts (.fieldLink RX12 62 "OilPushModel" "orderEnd" "[I") (List.mem_of_getElem? (i := 2) rfl)) (fun _ h => h) rfl dX12_mayBeDone_8 ?_
  refine lv_iload_n hx hb dX12_mayBeDone_11 rfl (lv_at hl 2 rfl) ?_
  refine va_iald hx hb hK hP 2 0 rfl rfl hk dX12_mayBeDone_12 ?_
  refine lv_if_eq (tgt := 52) hx hb dX12_mayBeDone_13 (by decide) (fun c1 => ?_) (fun c1 => ?_)
  · refine lv_iconst (v := 1) hx hb dX12_mayBeDone_52 (by decide) ?_
    refine lv_goto (tgt := 57) hx hb dX12_mayBeDone_53 (by decide) ?_
    exact retZ C rfl hS () (by unfold r_g_mayBeDone; rw [if_pos c1]) (hP.pick [0, 1, 2, 3, 4, 5] rfl) (hD.sub [0, 1, 2, 3, 4, 5] rfl rfl) (Nat.le_of_ble_eq_true rfl) (Nat.le_of_ble_eq_true rfl) dX12_mayBeDone_57
  refine lv_aload_n hx hb dX12_mayBeDone_16 rfl (lv_at hl 1 rfl) ?_
  refine va_get (D := g.1) (ci := 12) (v := .ref (q 26)) (C := RX12) (T := TX12) (N := 66) hx hb hts hg_X12_mayBeDone_X12 hown hK hP 0 rfl rfl 26 (by decide) (hts (.fieldLink RX12 62 "OilPushModel" "orderEnd" "[I") (List.mem_of_getElem? (i := 2) rfl)) (fun _ h => h) rfl dX12_mayBeDone_17 ?_
  refine lv_iload_n hx hb dX12_mayBeDone_20 rfl (lv_at hl 2 rfl) ?_
  refine va_iald hx hb hK hP 2 0 rfl rfl hk dX12_mayBeDone_21 ?_
  refine lv_iconst (v := 1) hx hb dX12_mayBeDone_22 (by decide) ?_
  refine lv_icmp_ne (tgt := 43) hx hb dX12_mayBeDone_23 (by decide) (fun c2 => ?_) (fun c2 => ?_)
  · refine lv_aload_n hx hb dX12_mayBeDone_43 rfl (lv_at hl 1 rfl) ?_
    refine va_get (D := g.1) (ci := 12) (v := .ref (q 11)) (C := RX12) (T := TX12) (N := 66) hx hb hts hg_X12_mayBeDone_X12 hown hK hP 0 rfl rfl 11 (by decide) (hts (.fieldLink RX12 31 "OilPushModel" "oil" "[I") (List.mem_of_getElem? (i := 3) rfl)) (fun _ h => h) rfl dX12_mayBeDone_44 ?_
    refine lv_iload_n hx hb dX12_mayBeDone_47 rfl (lv_at hl 0 rfl) ?_
    refine va_iald hx hb hK hP 3 0 rfl rfl hc dX12_mayBeDone_48 ?_
    refine lv_if_ne (tgt := 56) hx hb dX12_mayBeDone_49 (by decide) (fun c3 => ?_) (fun c3 => ?_)
    · refine lv_iconst (v := 0) hx hb dX12_mayBeDone_56 (by decide) ?_
      exact retZ C rfl hS () (by unfold r_g_mayBeDone; rw [if_neg c1, if_neg c2, if_neg c3]) (hP.pick [0, 1, 2, 3, 4, 5] rfl) (hD.sub [0, 1, 2, 3, 4, 5] rfl rfl) (Nat.le_of_ble_eq_true rfl) (Nat.le_of_ble_eq_true rfl) dX12_mayBeDone_57
    refine lv_iconst (v := 1) hx hb dX12_mayBeDone_52 (by decide) ?_
    refine lv_goto (tgt := 57) hx hb dX12_mayBeDone_53 (by decide) ?_
    exact retZ C rfl hS () (by unfold r_g_mayBeDone; rw [if_neg c1, if_neg c2, if_pos c3]) (hP.pick [0, 1, 2, 3, 4, 5] rfl) (hD.sub [0, 1, 2, 3, 4, 5] rfl rfl) (Nat.le_of_ble_eq_true rfl) (Nat.le_of_ble_eq_true rfl) dX12_mayBeDone_57
  refine lv_aload_n hx hb dX12_mayBeDone_26 rfl (lv_at hl 1 rfl) ?_
  refine va_get (D := g.1) (ci := 12) (v := .ref (q 11)) (C := RX12) (T := TX12) (N := 66) hx hb hts hg_X12_mayBeDone_X12 hown hK hP 0 rfl rfl 11 (by decide) (hts (.fieldLink RX12 31 "OilPushModel" "oil" "[I") (List.mem_of_getElem? (i := 3) rfl)) (fun _ h => h) rfl dX12_mayBeDone_27 ?_
  refine lv_iload_n hx hb dX12_mayBeDone_30 rfl (lv_at hl 0 rfl) ?_
  refine va_iald hx hb hK hP 3 0 rfl rfl hc dX12_mayBeDone_31 ?_
  refine lv_aload_n hx hb dX12_mayBeDone_32 rfl (lv_at hl 1 rfl) ?_
  refine lv_iload_n hx hb dX12_mayBeDone_33 rfl (lv_at hl 0 rfl) ?_
  refine callIV (As := [.int (a25 (k.toNatClampNeg))]) (rest := [.int (a11 ((a25 (k.toNatClampNeg)).toNatClampNeg))]) (wr := [((q 25), .inl (g.2 0, 30, .inl a25)), ((q 26), .inl (g.2 0, 30, .inl a26)), ((q 11), .inl (g.2 0, 6, .inl a11))]) (Cn := RX12) C (g_room l g h0 q i L a9 a10 (a25 (k.toNatClampNeg)) hc) 1 gX12_mayBeDone_X12_room rfl (by decide +kernel) ⟨(Nat.le_of_ble_eq_true rfl), (Nat.le_of_ble_eq_true rfl)⟩ [0, 4, 5] [1, 2, 3] hP hD hA hS rfl rfl rfl rfl (by decide) (k := 0) (ci := 12) rfl rfl rfl rfl hl.1 rfl (Nat.le_of_ble_eq_true rfl) dX12_mayBeDone_34 ⟨(Nat.le_of_ble_eq_true rfl), (Nat.le_of_ble_eq_true rfl)⟩ (fun r _u H locs hw hP hD hS => ?_)
  have hP : va_P g.1 vwCl [((q 25), .inl (g.2 0, 30, .inl a25)), ((q 26), .inl (g.2 0, 30, .inl a26)), ((q 11), .inl (g.2 0, 6, .inl a11)), (h0, .inr (12, mO q i L)), ((q 9), .inl (g.2 0, 6, .inl a9)), ((q 10), .inl (g.2 0, 6, .inl a10))] H := hP
  have hD : va_D A [((q 25), .inl (g.2 0, 30, .inl a25)), ((q 26), .inl (g.2 0, 30, .inl a26)), ((q 11), .inl (g.2 0, 6, .inl a11)), (h0, .inr (12, mO q i L)), ((q 9), .inl (g.2 0, 6, .inl a9)), ((q 10), .inl (g.2 0, 6, .inl a10))] := hD
  subst hw
  refine lv_icmp_ne (tgt := 56) hx hb dX12_mayBeDone_37 (by decide) (fun c4 => ?_) (fun c4 => ?_)
  · refine lv_iconst (v := 0) hx hb dX12_mayBeDone_56 (by decide) ?_
    exact retZ C rfl hS () (by unfold r_g_mayBeDone; rw [if_neg c1, if_pos c2, if_neg c4]) (hP.pick [3, 0, 1, 2, 4, 5] rfl) (hD.sub [3, 0, 1, 2, 4, 5] rfl rfl) (Nat.le_of_ble_eq_true rfl) (Nat.le_of_ble_eq_true rfl) dX12_mayBeDone_57
  refine lv_goto (tgt := 52) hx hb dX12_mayBeDone_40 (by decide) ?_
  refine lv_iconst (v := 1) hx hb dX12_mayBeDone_52 (by decide) ?_
  refine lv_goto (tgt := 57) hx hb dX12_mayBeDone_53 (by decide) ?_
  exact retZ C rfl hS () (by unfold r_g_mayBeDone; rw [if_neg c1, if_pos c2, if_pos c4]) (hP.pick [3, 0, 1, 2, 4, 5] rfl) (hD.sub [3, 0, 1, 2, 4, 5] rfl rfl) (Nat.le_of_ble_eq_true rfl) (Nat.le_of_ble_eq_true rfl) dX12_mayBeDone_57
