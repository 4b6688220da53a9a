def mO (q : Nat → Nat) (i : Nat → Int32) (L : Nat → Int64) : List Value := [.int (i 0), .ref (q 1), .ref (q 2), .ref (q 3), .ref (q 4), .int (i 5), .int (i 6), .int (i 7), .ref (q 8), .ref (q 9), .ref (q 10), .ref (q 11), .ref (q 12), .ref (q 13), .ref (q 14), .ref (q 15), .ref (q 16), .ref (q 17), .ref (q 18), .ref (q 19), .int (i 20), .int (i 21), .int (i 22), .int (i 23), .int (i 24), .ref (q 25), .ref (q 26), .ref (q 27), .ref (q 28), .int (i 29), .int (i 30), .int (i 31), .int (i 32), .int (i 33), .int (i 34), .int (i 35), .ref (q 36), .long (L 37), .long (L 38), .long (L 39), .int (i 40), .ref (q 41), .ref (q 42), .ref (q 43), .ref (q 44), .int (i 45), .int (i 46), .ref (q 47), .ref (q 48), .ref (q 49), .int (i 50), .int (i 51), .int (i 52), .ref (q 53), .ref (q 54), .ref (q 55), .ref (q 56), .ref (q 57), .ref (q 58), .ref (q 59), .ref (q 60), .ref (q 61), .ref (q 62), .ref (q 63), .int (i 64), .int (i 65)]
theorem hg_X12_refused_X12 : ∀ w ∈ wsX120, w ∈ wsX12_refused := fun w h => List.mem_cons_of_mem _ (List.mem_append_right _ h)
set_option maxRecDepth 100000 in
set_option maxHeartbeats 4000000 in
theorem g_refused (l : Launch) (g : Gt) (h0 : Nat) (q : Nat → Nat) (i : Nat → Int32) (L : Nat → Int64) (code_ : Int32)  : Ctr l g yX12_refused wsX12_refused ({ frames := 0, cells := 0, slots := 0, locals := 0 } : Room) [.ref h0, .int code_] [(h0, .inr (12, mO q i L))] (fun A => QI g A (fun r (_ : Unit) => r = code_) (fun _u : Unit => [(h0, .inr (12, mO q (upd i 0 0) L))])) := by
  refine Ctr.of (cc := cX12_refused) (maxL := 2) (ret := (some .int)) (by decide) rfl (Nat.le_of_ble_eq_true rfl) ?_
  intro p e s m below meth c A ls H C hP hD hA hS hl
  obtain ⟨hx, hb, hr, hts, hown, hlocks, hml, hin, hKN⟩ := id C
  have hK := hKN.1
  have hN := hKN.2
  have F : CallFix p m c cX12_refused 2 s _ wsX12_refused yX12_refused.cls := ⟨hx, hb, hml, hown, hts⟩
  have hl : lv_has ls 2 [(0, .ref h0), (1, .int code_)] := hl
  refine lv_aload_n hx hb dX12_refused_0 rfl (lv_at hl 0 rfl) ?_
  refine lv_iconst (v := 0) hx hb dX12_refused_1 (by decide) ?_
  refine va_put (D := g.1) (ci := 12) (v := .int 0) (ty := .int) (C := RX12) (T := TX12) (N := 66) hx hb hts hg_X12_refused_X12 tyX12 tyX12_ok nmX12 hown hK hP hD hS 0 rfl rfl 0 (by decide) (hts (.fieldLink RX12 141 "OilPushModel" "fault" "I") (by decide +kernel)) (fun _ h => h) rfl (by decide +kernel) rfl rfl (Nat.le_of_ble_eq_true rfl) dX12_refused_2 (fun H locs hP hD hS => ?_)
  have hP : va_P g.1 vwCl [(h0, .inr (12, mO q (upd i 0 0) L))] H := hP
  have hD : va_D A [(h0, .inr (12, mO q (upd i 0 0) L))] := hD
  refine lv_iload_n hx hb dX12_refused_5 rfl (lv_at hl 1 rfl) ?_
  exact retI C hS () rfl (hP.pick [0] rfl) (hD.sub [0] rfl rfl) (Nat.le_of_ble_eq_true rfl) (Nat.le_of_ble_eq_true rfl) dX12_refused_6
theorem hg_X12_failed_X12 : ∀ w ∈ wsX120, w ∈ wsX12_failed := fun w h => List.mem_cons_of_mem _ (List.mem_append_right _ h)
set_option maxRecDepth 100000 in
set_option maxHeartbeats 4000000 in
theorem g_failed (l : Launch) (g : Gt) (h0 : Nat) (q : Nat → Nat) (i : Nat → Int32) (L : Nat → Int64) (f : Int32)  : Ctr l g yX12_failed wsX12_failed ({ frames := 0, cells := 0, slots := 0, locals := 0 } : Room) [.ref h0, .int f] [(h0, .inr (12, mO q i L))] (fun A => QI g A (fun r (_ : Unit) => r = ((-10) - f)) (fun _u : Unit => [(h0, .inr (12, mO q (upd i 0 f) L))])) := by
  refine Ctr.of (cc := cX12_failed) (maxL := 2) (ret := (some .int)) (by decide) rfl (Nat.le_of_ble_eq_true rfl) ?_
  intro p e s m below meth c A ls H C hP hD hA hS hl
  obtain ⟨hx, hb, hr, hts, hown, hlocks, hml, hin, hKN⟩ := id C
  have hK := hKN.1
  have hN := hKN.2
  have F : CallFix p m c cX12_failed 2 s _ wsX12_failed yX12_failed.cls := ⟨hx, hb, hml, hown, hts⟩
  have hl : lv_has ls 2 [(0, .ref h0), (1, .int f)] := hl
  refine lv_aload_n hx hb dX12_failed_0 rfl (lv_at hl 0 rfl) ?_
  refine lv_iload_n hx hb dX12_failed_1 rfl (lv_at hl 1 rfl) ?_
  refine va_put (D := g.1) (ci := 12) (v := .int f) (ty := .int) (C := RX12) (T := TX12) (N := 66) hx hb hts hg_X12_failed_X12 tyX12 tyX12_ok nmX12 hown hK hP hD hS 0 rfl rfl 0 (by decide) (hts (.fieldLink RX12 141 "OilPushModel" "fault" "I") (by decide +kernel)) (fun _ h => h) rfl (by decide +kernel) rfl rfl (Nat.le_of_ble_eq_true rfl) dX12_failed_2 (fun H locs hP hD hS => ?_)
  have hP : va_P g.1 vwCl [(h0, .inr (12, mO q (upd i 0 f) L))] H := hP
  have hD : va_D A [(h0, .inr (12, mO q (upd i 0 f) L))] := hD
  refine lv_bipush (v := -10) hx hb dX12_failed_5 (by decide) ?_
  refine lv_iload_n hx hb dX12_failed_7 rfl (lv_at hl 1 rfl) ?_
  refine lv_isub hx hb dX12_failed_8 ?_
  exact retI C hS () rfl (hP.pick [0] rfl) (hD.sub [0] rfl rfl) (Nat.le_of_ble_eq_true rfl) (Nat.le_of_ble_eq_true rfl) dX12_failed_9
theorem hg_X12_failedLong_X12 : ∀ w ∈ wsX120, w ∈ wsX12_failedLong := fun w h => List.mem_cons_of_mem _ (List.mem_append_right _ h)
set_option maxRecDepth 100000 in
set_option maxHeartbeats 4000000 in
theorem g_failedLong (l : Launch) (g : Gt) (h0 : Nat) (q : Nat → Nat) (i : Nat → Int32) (L : Nat → Int64) (f : Int32)  : Ctr l g yX12_failedLong wsX12_failedLong ({ frames := 1, cells := 0, slots := 0, locals := 19 } : Room) [.ref h0, .int f] [(h0, .inr (12, mO q i L))] (fun A => QL g A (fun r (_ : Unit) => r = (-9223372036854775808)) (fun _u : Unit => [(h0, .inr (12, mO q (upd i 0 f) L))])) := by
  refine Ctr.of (cc := cX12_failedLong) (maxL := 2) (ret := (some .long)) (by decide) rfl (Nat.le_of_ble_eq_true rfl) ?_
  intro p e s m below meth c A ls H C hP hD hA hS hl
  obtain ⟨hx, hb, hr, hts, hown, hlocks, hml, hin, hKN⟩ := id C
  have hK := hKN.1
  have hN := hKN.2
  have F : CallFix p m c cX12_failedLong 2 s _ wsX12_failedLong yX12_failedLong.cls := ⟨hx, hb, hml, hown, hts⟩
  have hl : lv_has ls 2 [(0, .ref h0), (1, .int f)] := hl
  refine lv_aload_n hx hb dX12_failedLong_0 rfl (lv_at hl 0 rfl) ?_
  refine lv_iload_n hx hb dX12_failedLong_1 rfl (lv_at hl 1 rfl) ?_
  refine va_put (D := g.1) (ci := 12) (v := .int f) (ty := .int) (C := RX12) (T := TX12) (N := 66) hx hb hts hg_X12_failedLong_X12 tyX12 tyX12_ok nmX12 hown hK hP hD hS 0 rfl rfl 0 (by decide) (hts (.fieldLink RX12 141 "OilPushModel" "fault" "I") (by decide +kernel)) (fun _ h => h) rfl (by decide +kernel) rfl rfl (Nat.le_of_ble_eq_true rfl) dX12_failedLong_2 (fun H locs hP hD hS => ?_)
  have hP : va_P g.1 vwCl [(h0, .inr (12, mO q (upd i 0 f) L))] H := hP
  have hD : va_D A [(h0, .inr (12, mO q (upd i 0 f) L))] := hD
  refine pureLS (As := []) (rest := []) F (c_lost l) 0 gX12_failedLong_X12_lost rfl (by decide +kernel) rfl rfl ⟨(Nat.le_of_ble_eq_true rfl), (Nat.le_of_ble_eq_true rfl)⟩ (Nat.le_of_ble_eq_true rfl) (Nat.le_of_ble_eq_true rfl) rfl hl.1 rfl (Nat.le_of_ble_eq_true rfl) dX12_failedLong_5 ?_
  exact retL C hS () rfl (hP.pick [0] rfl) (hD.sub [0] rfl rfl) (Nat.le_of_ble_eq_true rfl) (Nat.le_of_ble_eq_true rfl) dX12_failedLong_8
theorem hg_X12_noCylinder_X12 : ∀ w ∈ wsX120, w ∈ wsX12_noCylinder := fun w h => List.mem_cons_of_mem _ (List.mem_append_right _ h)
def r_g_noCylinder (i : Nat → Int32) (cy : Int32) : Int32 := (if (r_c_in (Int32.toInt64 cy) 0 ((Int32.toInt64 (i 7)) - 1)) = 0 then 1 else 0)
theorem nz_r_g_noCylinder (i : Nat → Int32) (cy : Int32) : narrow .boolean (.int (r_g_noCylinder i cy)) = .int (r_g_noCylinder i cy) := by unfold r_g_noCylinder; (repeat' split) <;> rfl
set_option maxRecDepth 100000 in
set_option maxHeartbeats 4000000 in
theorem g_noCylinder (l : Launch) (g : Gt) (h0 : Nat) (q : Nat → Nat) (i : Nat → Int32) (L : Nat → Int64) (cy : Int32)  : Ctr l g yX12_noCylinder wsX12_noCylinder ({ frames := 1, cells := 0, slots := 0, locals := 25 } : Room) [.ref h0, .int cy] [(h0, .inr (12, mO q i L))] (fun A => QI g A (fun r (_ : Unit) => r = (r_g_noCylinder i cy)) (fun _u : Unit => [(h0, .inr (12, mO q i L))])) := by
  refine Ctr.of (cc := cX12_noCylinder) (maxL := 2) (ret := (some .boolean)) (by decide) rfl (Nat.le_of_ble_eq_true rfl) ?_
  intro p e s m below meth c A ls H C hP hD hA hS hl
  obtain ⟨hx, hb, hr, hts, hown, hlocks, hml, hin, hKN⟩ := id C
  have hK := hKN.1
  have hN := hKN.2
  have F : CallFix p m c cX12_noCylinder 2 s _ wsX12_noCylinder yX12_noCylinder.cls := ⟨hx, hb, hml, hown, hts⟩
  have hl : lv_has ls 2 [(0, .ref h0), (1, .int cy)] := hl
  refine lv_iload_n hx hb dX12_noCylinder_0 rfl (lv_at hl 1 rfl) ?_
  refine lv_i2l hx hb dX12_noCylinder_1 rfl ?_
  refine lv_lconst (v := 0) hx hb dX12_noCylinder_2 (by decide) ?_
  refine lv_aload_n hx hb dX12_noCylinder_3 rfl (lv_at hl 0 rfl) ?_
  refine va_get (D := g.1) (ci := 12) (v := .int (i 7)) (C := RX12) (T := TX12) (N := 66) hx hb hts hg_X12_noCylinder_X12 hown hK hP 0 rfl rfl 7 (by decide) (hts (.fieldLink RX12 179 "OilPushModel" "cylinders" "I") (by decide +kernel)) (fun _ h => h) rfl dX12_noCylinder_4 ?_
  refine lv_i2l hx hb dX12_noCylinder_7 rfl ?_
  refine lv_lconst (v := 1) hx hb dX12_noCylinder_8 (by decide) ?_
  refine lv_lsub hx hb dX12_noCylinder_9 ?_
  refine pureIS (As := [.long (Int32.toInt64 cy), .long 0, .long ((Int32.toInt64 (i 7)) - 1)]) (rest := []) F (c_in l (Int32.toInt64 cy) 0 ((Int32.toInt64 (i 7)) - 1)) 3 gX12_noCylinder_X12_in rfl (by decide +kernel) rfl rfl ⟨(Nat.le_of_ble_eq_true rfl), (Nat.le_of_ble_eq_true rfl)⟩ (Nat.le_of_ble_eq_true rfl) (Nat.le_of_ble_eq_true rfl) rfl hl.1 rfl (Nat.le_of_ble_eq_true rfl) dX12_noCylinder_10 ?_
  refine lv_if_ne (tgt := 20) hx hb dX12_noCylinder_13 (by decide) (fun c1 => ?_) (fun c1 => ?_)
  · refine lv_iconst (v := 0) hx hb dX12_noCylinder_20 (by decide) ?_
    exact retZ C rfl hS () (by unfold r_g_noCylinder; rw [if_neg c1]) (hP.pick [0] rfl) (hD.sub [0] rfl rfl) (Nat.le_of_ble_eq_true rfl) (Nat.le_of_ble_eq_true rfl) dX12_noCylinder_21
  refine lv_iconst (v := 1) hx hb dX12_noCylinder_16 (by decide) ?_
  refine lv_goto (tgt := 21) hx hb dX12_noCylinder_17 (by decide) ?_
  exact retZ C rfl hS () (by unfold r_g_noCylinder; rw [if_pos c1]) (hP.pick [0] rfl) (hD.sub [0] rfl rfl) (Nat.le_of_ble_eq_true rfl) (Nat.le_of_ble_eq_true rfl) dX12_noCylinder_21
theorem hg_X12_noCell_X12 : ∀ w ∈ wsX120, w ∈ wsX12_noCell := fun w h => List.mem_cons_of_mem _ (List.mem_append_right _ h)
def r_g_noCell (a1 : Nat → Int32) (k : Int32) (ii : Int32) : Int32 := (if 0 ≤ (a1 (k.toNatClampNeg)) then (if (r_c_in (Int32.toInt64 ii) 0 ((Int32.toInt64 (a1 (k.toNatClampNeg))) - 1)) = 0 then 3 else 0) else 1)
set_option maxRecDepth 100000 in
set_option maxHeartbeats 4000000 in
theorem g_noCell (l : Launch) (g : Gt) (h0 : Nat) (q : Nat → Nat) (i : Nat → Int32) (L : Nat → Int64) (a1 : Nat → Int32) (k : Int32) (ii : Int32) (hk : vp_in k 4) : Ctr l g yX12_noCell wsX12_noCell ({ frames := 1, cells := 0, slots := 0, locals := 25 } : Room) [.ref h0, .int k, .int ii] [(h0, .inr (12, mO q i L)), ((q 1), .inl (g.2 0, 4, .inl a1))] (fun A => QI g A (fun r (_ : Unit) => r = (r_g_noCell a1 k ii)) (fun _u : Unit => [(h0, .inr (12, mO q i L)), ((q 1), .inl (g.2 0, 4, .inl a1))])) := by
  refine Ctr.of (cc := cX12_noCell) (maxL := 3) (ret := (some .int)) (by decide) rfl (Nat.le_of_ble_eq_true rfl) ?_
  intro p e s m below meth c A ls H C hP hD hA hS hl
  obtain ⟨hx, hb, hr, hts, hown, hlocks, hml, hin, hKN⟩ := id C
  have hK := hKN.1
  have hN := hKN.2
  have F : CallFix p m c cX12_noCell 3 s _ wsX12_noCell yX12_noCell.cls := ⟨hx, hb, hml, hown, hts⟩
  have hl : lv_has ls 3 [(0, .ref h0), (1, .int k), (2, .int ii)] := hl
  refine lv_aload_n hx hb dX12_noCell_0 rfl (lv_at hl 0 rfl) ?_
  refine va_get (D := g.1) (ci := 12) (v := .ref (q 1)) (C := RX12) (T := TX12) (N := 66) hx hb hts hg_X12_noCell_X12 hown hK hP 0 rfl rfl 1 (by decide) (hts (.fieldLink RX12 7 "OilPushModel" "sheetSize" "[I") (by decide +kernel)) (fun _ h => h) rfl dX12_noCell_1 ?_
  refine lv_iload_n hx hb dX12_noCell_4 rfl (lv_at hl 1 rfl) ?_
  refine va_iald hx hb hK hP 1 0 rfl rfl hk dX12_noCell_5 ?_
  refine lv_if_ge (tgt := 13) hx hb dX12_noCell_6 (by decide) (fun c1 => ?_) (fun c1 => ?_)
  · refine lv_iload_n hx hb dX12_noCell_13 rfl (lv_at hl 2 rfl) ?_
    refine lv_i2l hx hb dX12_noCell_14 rfl ?_
    refine lv_lconst (v := 0) hx hb dX12_noCell_15 (by decide) ?_
    refine lv_aload_n hx hb dX12_noCell_16 rfl (lv_at hl 0 rfl) ?_
    refine va_get (D := g.1) (ci := 12) (v := .ref (q 1)) (C := RX12) (T := TX12) (N := 66) hx hb hts hg_X12_noCell_X12 hown hK hP 0 rfl rfl 1 (by decide) (hts (.fieldLink RX12 7 "OilPushModel" "sheetSize" "[I") (by decide +kernel)) (fun _ h => h) rfl dX12_noCell_17 ?_
    refine lv_iload_n hx hb dX12_noCell_20 rfl (lv_at hl 1 rfl) ?_
    refine va_iald hx hb hK hP 1 0 rfl rfl hk dX12_noCell_21 ?_
    refine lv_i2l hx hb dX12_noCell_22 rfl ?_
    refine lv_lconst (v := 1) hx hb dX12_noCell_23 (by decide) ?_
    refine lv_lsub hx hb dX12_noCell_24 ?_
    refine pureIS (As := [.long (Int32.toInt64 ii), .long 0, .long ((Int32.toInt64 (a1 (k.toNatClampNeg))) - 1)]) (rest := []) F (c_in l (Int32.toInt64 ii) 0 ((Int32.toInt64 (a1 (k.toNatClampNeg))) - 1)) 3 gX12_noCell_X12_in rfl (by decide +kernel) rfl rfl ⟨(Nat.le_of_ble_eq_true rfl), (Nat.le_of_ble_eq_true rfl)⟩ (Nat.le_of_ble_eq_true rfl) (Nat.le_of_ble_eq_true rfl) rfl hl.1 rfl (Nat.le_of_ble_eq_true rfl) dX12_noCell_25 ?_
    refine lv_if_eq (tgt := 35) hx hb dX12_noCell_28 (by decide) (fun c2 => ?_) (fun c2 => ?_)
    · refine lv_iconst (v := 3) hx hb dX12_noCell_35 (by decide) ?_
      exact retI C hS () (by unfold r_g_noCell; rw [if_pos c1, if_pos c2]) (hP.pick [0, 1] rfl) (hD.sub [0, 1] rfl rfl) (Nat.le_of_ble_eq_true rfl) (Nat.le_of_ble_eq_true rfl) dX12_noCell_36
    refine lv_iconst (v := 0) hx hb dX12_noCell_31 (by decide) ?_
    refine lv_goto (tgt := 36) hx hb dX12_noCell_32 (by decide) ?_
    exact retI C hS () (by unfold r_g_noCell; rw [if_pos c1, if_neg c2]) (hP.pick [0, 1] rfl) (hD.sub [0, 1] rfl rfl) (Nat.le_of_ble_eq_true rfl) (Nat.le_of_ble_eq_true rfl) dX12_noCell_36
  refine lv_iconst (v := 1) hx hb dX12_noCell_9 (by decide) ?_
  refine lv_goto (tgt := 36) hx hb dX12_noCell_10 (by decide) ?_
  exact retI C hS () (by unfold r_g_noCell; rw [if_neg c1]) (hP.pick [0, 1] rfl) (hD.sub [0, 1] rfl rfl) (Nat.le_of_ble_eq_true rfl) (Nat.le_of_ble_eq_true rfl) dX12_noCell_36
theorem hg_X12_room_X12 : ∀ w ∈ wsX120, w ∈ wsX12_room := fun w h => List.mem_cons_of_mem _ (List.mem_append_right _ h)
set_option maxRecDepth 100000 in
set_option maxHeartbeats 4000000 in
theorem g_room (l : Launch) (g : Gt) (h0 : Nat) (q : Nat → Nat) (i : Nat → Int32) (L : Nat → Int64) (a9 : Nat → Int32) (a10 : Nat → Int32) (cy : Int32) (hc : vp_in cy 6) : Ctr l g yX12_room wsX12_room ({ frames := 0, cells := 0, slots := 0, locals := 0 } : Room) [.ref h0, .int cy] [(h0, .inr (12, mO q i L)), ((q 9), .inl (g.2 0, 6, .inl a9)), ((q 10), .inl (g.2 0, 6, .inl a10))] (fun A => QI g A (fun r (_ : Unit) => r = ((a9 (cy.toNatClampNeg)) * (a10 (cy.toNatClampNeg)))) (fun _u : Unit => [(h0, .inr (12, mO q i L)), ((q 9), .inl (g.2 0, 6, .inl a9)), ((q 10), .inl (g.2 0, 6, .inl a10))])) := by
  refine Ctr.of (cc := cX12_room) (maxL := 2) (ret := (some .int)) (by decide) rfl (Nat.le_of_ble_eq_true rfl) ?_
  intro p e s m below meth c A ls H C hP hD hA hS hl
  obtain ⟨hx, hb, hr, hts, hown, hlocks, hml, hin, hKN⟩ := id C
  have hK := hKN.1
  have hN := hKN.2
  have F : CallFix p m c cX12_room 2 s _ wsX12_room yX12_room.cls := ⟨hx, hb, hml, hown, hts⟩
  have hl : lv_has ls 2 [(0, .ref h0), (1, .int cy)] := hl
  refine lv_aload_n hx hb dX12_room_0 rfl (lv_at hl 0 rfl) ?_
  refine va_get (D := g.1) (ci := 12) (v := .ref (q 9)) (C := RX12) (T := TX12) (N := 66) hx hb hts hg_X12_room_X12 hown hK hP 0 rfl rfl 9 (by decide) (hts (.fieldLink RX12 25 "OilPushModel" "area" "[I") (by decide +kernel)) (fun _ h => h) rfl dX12_room_1 ?_
  refine lv_iload_n hx hb dX12_room_4 rfl (lv_at hl 1 rfl) ?_
  refine va_iald hx hb hK hP 1 0 rfl rfl hc dX12_room_5 ?_
  refine lv_aload_n hx hb dX12_room_6 rfl (lv_at hl 0 rfl) ?_
  refine va_get (D := g.1) (ci := 12) (v := .ref (q 10)) (C := RX12) (T := TX12) (N := 66) hx hb hts hg_X12_room_X12 hown hK hP 0 rfl rfl 10 (by decide) (hts (.fieldLink RX12 28 "OilPushModel" "stroke" "[I") (by decide +kernel)) (fun _ h => h) rfl dX12_room_7 ?_
  refine lv_iload_n hx hb dX12_room_10 rfl (lv_at hl 1 rfl) ?_
  refine va_iald hx hb hK hP 2 0 rfl rfl hc dX12_room_11 ?_
  refine lv_imul hx hb dX12_room_12 ?_
  exact retI C hS () rfl (hP.pick [0, 1, 2] rfl) (hD.sub [0, 1, 2] rfl rfl) (Nat.le_of_ble_eq_true rfl) (Nat.le_of_ble_eq_true rfl) dX12_room_13
theorem hg_X12_traced_X12 : ∀ w ∈ wsX120, w ∈ wsX12_traced := fun w h => List.mem_cons_of_mem _ (List.mem_append_right _ h)
set_option maxRecDepth 100000 in
set_option maxHeartbeats 4000000 in
theorem g_traced (l : Launch) (g : Gt) (h0 : Nat) (q : Nat → Nat) (i : Nat → Int32) (L : Nat → Int64) (n : Int32)  : Ctr l g yX12_traced wsX12_traced ({ frames := 0, cells := 0, slots := 0, locals := 0 } : Room) [.ref h0, .int n] [(h0, .inr (12, mO q i L))] (fun A => QV g A (fun _ : Unit => () = ()) (fun _u : Unit => [(h0, .inr (12, mO q (upd i 65 ((31 * (i 65)) + n)) L))])) := by
  refine Ctr.of (cc := cX12_traced) (maxL := 2) (ret := none) (by decide) rfl (Nat.le_of_ble_eq_true rfl) ?_
  intro p e s m below meth c A ls H C hP hD hA hS hl
  obtain ⟨hx, hb, hr, hts, hown, hlocks, hml, hin, hKN⟩ := id C
  have hK := hKN.1
  have hN := hKN.2
  have F : CallFix p m c cX12_traced 2 s _ wsX12_traced yX12_traced.cls := ⟨hx, hb, hml, hown, hts⟩
  have hl : lv_has ls 2 [(0, .ref h0), (1, .int n)] := hl
  refine lv_aload_n hx hb dX12_traced_0 rfl (lv_at hl 0 rfl) ?_
  refine lv_bipush (v := 31) hx hb dX12_traced_1 (by decide) ?_
  refine lv_aload_n hx hb dX12_traced_3 rfl (lv_at hl 0 rfl) ?_
  refine va_get (D := g.1) (ci := 12) (v := .int (i 65)) (C := RX12) (T := TX12) (N := 66) hx hb hts hg_X12_traced_X12 hown hK hP 0 rfl rfl 65 (by decide) (hts (.fieldLink RX12 313 "OilPushModel" "trace" "I") (by decide +kernel)) (fun _ h => h) rfl dX12_traced_4 ?_
  refine lv_imul hx hb dX12_traced_7 ?_
  refine lv_iload_n hx hb dX12_traced_8 rfl (lv_at hl 1 rfl) ?_
  refine lv_iadd hx hb dX12_traced_9 ?_
  refine va_put (D := g.1) (ci := 12) (v := .int ((31 * (i 65)) + n)) (ty := .int) (C := RX12) (T := TX12) (N := 66) hx hb hts hg_X12_traced_X12 tyX12 tyX12_ok nmX12 hown hK hP hD hS 0 rfl rfl 65 (by decide) (hts (.fieldLink RX12 313 "OilPushModel" "trace" "I") (by decide +kernel)) (fun _ h => h) rfl (by decide +kernel) rfl rfl (Nat.le_of_ble_eq_true rfl) dX12_traced_10 (fun H locs hP hD hS => ?_)
  have hP : va_P g.1 vwCl [(h0, .inr (12, mO q (upd i 65 ((31 * (i 65)) + n)) L))] H := hP
  have hD : va_D A [(h0, .inr (12, mO q (upd i 65 ((31 * (i 65)) + n)) L))] := hD
  exact retV C hS () rfl (hP.pick [0] rfl) (hD.sub [0] rfl rfl) (Nat.le_of_ble_eq_true rfl) (Nat.le_of_ble_eq_true rfl) dX12_traced_13
theorem hg_X12_loseFrom_X12 : ∀ w ∈ wsX120, w ∈ wsX12_loseFrom := fun w h => List.mem_cons_of_mem _ (List.mem_append_right _ h)
def o_g_loseFrom_q11 (a11 : Nat → Int32) (cy : Int32) (n : Int32) : Nat → Int32 := (upd a11 (cy.toNatClampNeg) ((a11 (cy.toNatClampNeg)) - (r_c_lesser n (a11 (cy.toNatClampNeg)))))
set_option maxRecDepth 100000 in
set_option maxHeartbeats 4000000 in
theorem g_loseFrom (l : Launch) (g : Gt) (h0 : Nat) (q : Nat → Nat) (i : Nat → Int32) (L : Nat → Int64) (a11 : Nat → Int32) (a19 : Nat → Int32) (cy : Int32) (n : Int32) (hc : vp_in cy 6) : Ctr l g yX12_loseFrom wsX12_loseFrom ({ frames := 1, cells := 0, slots := 0, locals := 21 } : Room) [.ref h0, .int cy, .int n] [(h0, .inr (12, mO q i L)), ((q 11), .inl (g.2 0, 6, .inl a11)), ((q 19), .inl (g.2 0, 6, .inl a19))] (fun A => QV g A (fun _ : Unit => () = ()) (fun _u : Unit => [(h0, .inr (12, mO q i L)), ((q 11), .inl (g.2 0, 6, .inl (o_g_loseFrom_q11 a11 cy n))), ((q 19), .inl (g.2 0, 6, .inl (upd a19 (cy.toNatClampNeg) (-(r_c_lesser n (a11 (cy.toNatClampNeg)))))))])) := by
  refine Ctr.of (cc := cX12_loseFrom) (maxL := 4) (ret := none) (by decide) rfl (Nat.le_of_ble_eq_true rfl) ?_
  intro p e s m below meth c A ls H C hP hD hA hS hl
  obtain ⟨hx, hb, hr, hts, hown, hlocks, hml, hin, hKN⟩ := id C
  have hK := hKN.1
  have hN := hKN.2
  have F : CallFix p m c cX12_loseFrom 4 s _ wsX12_loseFrom yX12_loseFrom.cls := ⟨hx, hb, hml, hown, hts⟩
  have hl : lv_has ls 4 [(0, .ref h0), (1, .int cy), (2, .int n)] := hl
  refine lv_iload_n hx hb dX12_loseFrom_0 rfl (lv_at hl 2 rfl) ?_
  refine lv_aload_n hx hb dX12_loseFrom_1 rfl (lv_at hl 0 rfl) ?_
  refine va_get (D := g.1) (ci := 12) (v := .ref (q 11)) (C := RX12) (T := TX12) (N := 66) hx hb hts hg_X12_loseFrom_X12 hown hK hP 0 rfl rfl 11 (by decide) (hts (.fieldLink RX12 31 "OilPushModel" "oil" "[I") (by decide +kernel)) (fun _ h => h) rfl dX12_loseFrom_2 ?_
  refine lv_iload_n hx hb dX12_loseFrom_5 rfl (lv_at hl 1 rfl) ?_
  refine va_iald hx hb hK hP 1 0 rfl rfl hc dX12_loseFrom_6 ?_
  refine pureIS (As := [.int n, .int (a11 (cy.toNatClampNeg))]) (rest := []) F (c_lesser l n (a11 (cy.toNatClampNeg))) 2 gX12_loseFrom_X12_lesser rfl (by decide +kernel) rfl rfl ⟨(Nat.le_of_ble_eq_true rfl), (Nat.le_of_ble_eq_true rfl)⟩ (Nat.le_of_ble_eq_true rfl) (Nat.le_of_ble_eq_true rfl) rfl hl.1 rfl (Nat.le_of_ble_eq_true rfl) dX12_loseFrom_7 ?_
  refine lv_istore_n (lv' := [(3, .int (r_c_lesser n (a11 (cy.toNatClampNeg)))), (0, .ref h0), (1, .int cy), (2, .int n)]) hx hb dX12_loseFrom_10 rfl hl (by decide) rfl (fun ls hl => ?_)
  refine lv_aload_n hx hb dX12_loseFrom_11 rfl (lv_at hl 1 rfl) ?_
  refine va_get (D := g.1) (ci := 12) (v := .ref (q 11)) (C := RX12) (T := TX12) (N := 66) hx hb hts hg_X12_loseFrom_X12 hown hK hP 0 rfl rfl 11 (by decide) (hts (.fieldLink RX12 31 "OilPushModel" "oil" "[I") (by decide +kernel)) (fun _ h => h) rfl dX12_loseFrom_12 ?_
  refine lv_iload_n hx hb dX12_loseFrom_15 rfl (lv_at hl 2 rfl) ?_
  refine lv_dup2_11 hx hb dX12_loseFrom_16 rfl rfl ?_
  refine va_iald hx hb hK hP 1 0 rfl rfl hc dX12_loseFrom_17 ?_
  refine lv_iload_n hx hb dX12_loseFrom_18 rfl (lv_at hl 0 rfl) ?_
  refine lv_isub hx hb dX12_loseFrom_19 ?_
  refine va_iast hx hb hK hP hD hS 1 0 rfl rfl hc dX12_loseFrom_20 (fun H locs hP hD hS => ?_)
  have hP : va_P g.1 vwCl [(h0, .inr (12, mO q i L)), ((q 11), .inl (g.2 0, 6, .inl (upd a11 (cy.toNatClampNeg) ((a11 (cy.toNatClampNeg)) - (r_c_lesser n (a11 (cy.toNatClampNeg))))))), ((q 19), .inl (g.2 0, 6, .inl a19))] H := hP
  have hD : va_D A [(h0, .inr (12, mO q i L)), ((q 11), .inl (g.2 0, 6, .inl (upd a11 (cy.toNatClampNeg) ((a11 (cy.toNatClampNeg)) - (r_c_lesser n (a11 (cy.toNatClampNeg))))))), ((q 19), .inl (g.2 0, 6, .inl a19))] := hD
  refine lv_aload_n hx hb dX12_loseFrom_21 rfl (lv_at hl 1 rfl) ?_
  refine va_get (D := g.1) (ci := 12) (v := .ref (q 19)) (C := RX12) (T := TX12) (N := 66) hx hb hts hg_X12_loseFrom_X12 hown hK hP 0 rfl rfl 19 (by decide) (hts (.fieldLink RX12 56 "OilPushModel" "took" "[I") (by decide +kernel)) (fun _ h => h) rfl dX12_loseFrom_22 ?_
  refine lv_iload_n hx hb dX12_loseFrom_25 rfl (lv_at hl 2 rfl) ?_
  refine lv_iload_n hx hb dX12_loseFrom_26 rfl (lv_at hl 0 rfl) ?_
  refine lv_ineg hx hb dX12_loseFrom_27 ?_
  refine va_iast hx hb hK hP hD hS 2 0 rfl rfl hc dX12_loseFrom_28 (fun H locs hP hD hS => ?_)
  have hP : va_P g.1 vwCl [(h0, .inr (12, mO q i L)), ((q 11), .inl (g.2 0, 6, .inl (upd a11 (cy.toNatClampNeg) ((a11 (cy.toNatClampNeg)) - (r_c_lesser n (a11 (cy.toNatClampNeg))))))), ((q 19), .inl (g.2 0, 6, .inl (upd a19 (cy.toNatClampNeg) (-(r_c_lesser n (a11 (cy.toNatClampNeg)))))))] H := hP
  have hD : va_D A [(h0, .inr (12, mO q i L)), ((q 11), .inl (g.2 0, 6, .inl (upd a11 (cy.toNatClampNeg) ((a11 (cy.toNatClampNeg)) - (r_c_lesser n (a11 (cy.toNatClampNeg))))))), ((q 19), .inl (g.2 0, 6, .inl (upd a19 (cy.toNatClampNeg) (-(r_c_lesser n (a11 (cy.toNatClampNeg)))))))] := hD
  have hP : va_P g.1 vwCl [(h0, .inr (12, mO q i L)), ((q 11), .inl (g.2 0, 6, .inl (o_g_loseFrom_q11 a11 cy n))), ((q 19), .inl (g.2 0, 6, .inl (upd a19 (cy.toNatClampNeg) (-(r_c_lesser n (a11 (cy.toNatClampNeg)))))))] H := by exact hP
  have hD : va_D A [(h0, .inr (12, mO q i L)), ((q 11), .inl (g.2 0, 6, .inl (o_g_loseFrom_q11 a11 cy n))), ((q 19), .inl (g.2 0, 6, .inl (upd a19 (cy.toNatClampNeg) (-(r_c_lesser n (a11 (cy.toNatClampNeg)))))))] := by exact hD
  exact retV C hS () rfl (hP.pick [0, 1, 2] rfl) (hD.sub [0, 1, 2] rfl rfl) (Nat.le_of_ble_eq_true rfl) (Nat.le_of_ble_eq_true rfl) dX12_loseFrom_29
theorem hg_X12_pump_X12 : ∀ w ∈ wsX120, w ∈ wsX12_pump := fun w h => List.mem_cons_of_mem _ (List.mem_append_right _ h)
def r_g_pump (i : Nat → Int32) (what : Int32) (v : Int32) : Int32 := (if (r_c_in (Int32.toInt64 what) 0 1) = 0 then (-1) else (if (r_c_in (Int32.toInt64 v) (Int32.toInt64 what) 1000) = 0 then (-2) else (if what = 0 then (if what = 1 then (i 5) else (i 5)) else (if what = 1 then (i 6) else (i 6)))))
def o_g_pump_5 (i : Nat → Int32) (what : Int32) (v : Int32) : Int32 := (if (r_c_in (Int32.toInt64 what) 0 1) = 0 then (i 5) else (if (r_c_in (Int32.toInt64 v) (Int32.toInt64 what) 1000) = 0 then (i 5) else (if what = 0 then (if what = 1 then v else v) else (if what = 1 then (i 5) else (i 5)))))
def o_g_pump_6 (i : Nat → Int32) (what : Int32) (v : Int32) : Int32 := (if (r_c_in (Int32.toInt64 what) 0 1) = 0 then (i 6) else (if (r_c_in (Int32.toInt64 v) (Int32.toInt64 what) 1000) = 0 then (i 6) else (if what = 0 then (if what = 1 then v else (i 6)) else (if what = 1 then v else (i 6)))))
set_option maxRecDepth 100000 in
set_option maxHeartbeats 4000000 in
theorem g_pump (l : Launch) (g : Gt) (h0 : Nat) (q : Nat → Nat) (i : Nat → Int32) (L : Nat → Int64) (what : Int32) (v : Int32)  : Ctr l g yX12_pump wsX12_pump ({ frames := 1, cells := 0, slots := 0, locals := 25 } : Room) [.ref h0, .int what, .int v] [(h0, .inr (12, mO q i L))] (fun A => QI g A (fun r (_ : Unit) => r = (r_g_pump i what v)) (fun _u : Unit => [(h0, .inr (12, mO q (upd (upd i 5 (o_g_pump_5 i what v)) 6 (o_g_pump_6 i what v)) L))])) := by
  refine Ctr.of (cc := cX12_pump) (maxL := 4) (ret := (some .int)) (by decide) rfl (Nat.le_of_ble_eq_true rfl) ?_
  intro p e s m below meth c A ls H C hP hD hA hS hl
  obtain ⟨hx, hb, hr, hts, hown, hlocks, hml, hin, hKN⟩ := id C
  have hK := hKN.1
  have hN := hKN.2
  have F : CallFix p m c cX12_pump 4 s _ wsX12_pump yX12_pump.cls := ⟨hx, hb, hml, hown, hts⟩
  have hl : lv_has ls 4 [(0, .ref h0), (1, .int what), (2, .int v)] := hl
  refine lv_iload_n hx hb dX12_pump_0 rfl (lv_at hl 1 rfl) ?_
  refine lv_i2l hx hb dX12_pump_1 rfl ?_
  refine lv_lconst (v := 0) hx hb dX12_pump_2 (by decide) ?_
  refine lv_lconst (v := 1) hx hb dX12_pump_3 (by decide) ?_
  refine pureIS (As := [.long (Int32.toInt64 what), .long 0, .long 1]) (rest := []) F (c_in l (Int32.toInt64 what) 0 1) 3 gX12_pump_X12_in rfl (by decide +kernel) rfl rfl ⟨(Nat.le_of_ble_eq_true rfl), (Nat.le_of_ble_eq_true rfl)⟩ (Nat.le_of_ble_eq_true rfl) (Nat.le_of_ble_eq_true rfl) rfl hl.1 rfl (Nat.le_of_ble_eq_true rfl) dX12_pump_4 ?_
  refine lv_if_ne (tgt := 12) hx hb dX12_pump_7 (by decide) (fun c1 => ?_) (fun c1 => ?_)
  · refine lv_iload_n hx hb dX12_pump_12 rfl (lv_at hl 2 rfl) ?_
    refine lv_i2l hx hb dX12_pump_13 rfl ?_
    refine lv_iload_n hx hb dX12_pump_14 rfl (lv_at hl 1 rfl) ?_
    refine lv_i2l hx hb dX12_pump_15 rfl ?_
    refine lv_ldc2 (v := 1000) hx hb hown (hts (.constantLong RX12 182 (1000)) (by decide +kernel)) dX12_pump_16 ?_
    refine pureIS (As := [.long (Int32.toInt64 v), .long (Int32.toInt64 what), .long 1000]) (rest := []) F (c_in l (Int32.toInt64 v) (Int32.toInt64 what) 1000) 3 gX12_pump_X12_in rfl (by decide +kernel) rfl rfl ⟨(Nat.le_of_ble_eq_true rfl), (Nat.le_of_ble_eq_true rfl)⟩ (Nat.le_of_ble_eq_true rfl) (Nat.le_of_ble_eq_true rfl) rfl hl.1 rfl (Nat.le_of_ble_eq_true rfl) dX12_pump_19 ?_
    refine lv_if_ne (tgt := 28) hx hb dX12_pump_22 (by decide) (fun c2 => ?_) (fun c2 => ?_)
    · refine lv_iload_n hx hb dX12_pump_28 rfl (lv_at hl 1 rfl) ?_
      refine lv_if_ne (tgt := 39) hx hb dX12_pump_29 (by decide) (fun c3 => ?_) (fun c3 => ?_)
      · refine lv_aload_n hx hb dX12_pump_39 rfl (lv_at hl 0 rfl) ?_
        refine va_get (D := g.1) (ci := 12) (v := .int (i 6)) (C := RX12) (T := TX12) (N := 66) hx hb hts hg_X12_pump_X12 hown hK hP 0 rfl rfl 6 (by decide) (hts (.fieldLink RX12 129 "OilPushModel" "limit" "I") (by decide +kernel)) (fun _ h => h) rfl dX12_pump_40 ?_
        refine lv_istore_n (lv' := [(3, .int (i 6)), (0, .ref h0), (1, .int what), (2, .int v)]) hx hb dX12_pump_43 rfl hl (by decide) rfl (fun ls hl => ?_)
        refine lv_aload_n hx hb dX12_pump_44 rfl (lv_at hl 1 rfl) ?_
        refine lv_iload_n hx hb dX12_pump_45 rfl (lv_at hl 2 rfl) ?_
        refine lv_if_ne (tgt := 53) hx hb dX12_pump_46 (by decide) (fun _ => ?_) (fun cc0 => absurd cc0 c3)
        refine lv_aload_n hx hb dX12_pump_53 rfl (lv_at hl 1 rfl) ?_
        refine va_get (D := g.1) (ci := 12) (v := .int (i 5)) (C := RX12) (T := TX12) (N := 66) hx hb hts hg_X12_pump_X12 hown hK hP 0 rfl rfl 5 (by decide) (hts (.fieldLink RX12 184 "OilPushModel" "gives" "I") (by decide +kernel)) (fun _ h => h) rfl dX12_pump_54 ?_
        refine va_put (D := g.1) (ci := 12) (v := .int (i 5)) (ty := .int) (C := RX12) (T := TX12) (N := 66) hx hb hts hg_X12_pump_X12 tyX12 tyX12_ok nmX12 hown hK hP hD hS 0 rfl rfl 5 (by decide) (hts (.fieldLink RX12 184 "OilPushModel" "gives" "I") (by decide +kernel)) (fun _ h => h) rfl (by decide +kernel) rfl rfl (Nat.le_of_ble_eq_true rfl) dX12_pump_57 (fun H locs hP hD hS => ?_)
        have hP : va_P g.1 vwCl [(h0, .inr (12, mO q i L))] H := hP
        have hD : va_D A [(h0, .inr (12, mO q i L))] := hD
        refine lv_aload_n hx hb dX12_pump_60 rfl (lv_at hl 1 rfl) ?_
        refine lv_iload_n hx hb dX12_pump_61 rfl (lv_at hl 2 rfl) ?_
        refine lv_iconst (v := 1) hx hb dX12_pump_62 (by decide) ?_
        refine lv_icmp_ne (tgt := 70) hx hb dX12_pump_63 (by decide) (fun c4 => ?_) (fun c4 => ?_)
        · refine lv_aload_n hx hb dX12_pump_70 rfl (lv_at hl 1 rfl) ?_
          refine va_get (D := g.1) (ci := 12) (v := .int (i 6)) (C := RX12) (T := TX12) (N := 66) hx hb hts hg_X12_pump_X12 hown hK hP 0 rfl rfl 6 (by decide) (hts (.fieldLink RX12 129 "OilPushModel" "limit" "I") (by decide +kernel)) (fun _ h => h) rfl dX12_pump_71 ?_
          refine va_put (D := g.1) (ci := 12) (v := .int (i 6)) (ty := .int) (C := RX12) (T := TX12) (N := 66) hx hb hts hg_X12_pump_X12 tyX12 tyX12_ok nmX12 hown hK hP hD hS 0 rfl rfl 6 (by decide) (hts (.fieldLink RX12 129 "OilPushModel" "limit" "I") (by decide +kernel)) (fun _ h => h) rfl (by decide +kernel) rfl rfl (Nat.le_of_ble_eq_true rfl) dX12_pump_74 (fun H locs hP hD hS => ?_)
          have hP : va_P g.1 vwCl [(h0, .inr (12, mO q i L))] H := hP
          have hD : va_D A [(h0, .inr (12, mO q i L))] := hD
          refine lv_iload_n hx hb dX12_pump_77 rfl (lv_at hl 0 rfl) ?_
          have e90 : (o_g_pump_5 i what v) = (i 5) := by unfold o_g_pump_5; rw [if_neg c1, if_neg c2, if_neg c3, if_neg c4]
          have e91 : (o_g_pump_6 i what v) = (i 6) := by unfold o_g_pump_6; rw [if_neg c1, if_neg c2, if_neg c3, if_neg c4]
          have hP : va_P g.1 vwCl [(h0, .inr (12, mO q (upd (upd i 5 (o_g_pump_5 i what v)) 6 (o_g_pump_6 i what v)) L))] H := by rw [e90, e91]; exact hP
          have hD : va_D A [(h0, .inr (12, mO q (upd (upd i 5 (o_g_pump_5 i what v)) 6 (o_g_pump_6 i what v)) L))] := by rw [e90, e91]; exact hD
          exact retI C hS () (by unfold r_g_pump; rw [if_neg c1, if_neg c2, if_neg c3, if_neg c4]) (hP.pick [0] rfl) (hD.sub [0] rfl rfl) (Nat.le_of_ble_eq_true rfl) (Nat.le_of_ble_eq_true rfl) dX12_pump_78
        refine lv_iload_n hx hb dX12_pump_66 rfl (lv_at hl 3 rfl) ?_
        refine lv_goto (tgt := 74) hx hb dX12_pump_67 (by decide) ?_
        refine va_put (D := g.1) (ci := 12) (v := .int v) (ty := .int) (C := RX12) (T := TX12) (N := 66) hx hb hts hg_X12_pump_X12 tyX12 tyX12_ok nmX12 hown hK hP hD hS 0 rfl rfl 6 (by decide) (hts (.fieldLink RX12 129 "OilPushModel" "limit" "I") (by decide +kernel)) (fun _ h => h) rfl (by decide +kernel) rfl rfl (Nat.le_of_ble_eq_true rfl) dX12_pump_74 (fun H locs hP hD hS => ?_)
        have hP : va_P g.1 vwCl [(h0, .inr (12, mO q (upd i 6 v) L))] H := hP
        have hD : va_D A [(h0, .inr (12, mO q (upd i 6 v) L))] := hD
        refine lv_iload_n hx hb dX12_pump_77 rfl (lv_at hl 0 rfl) ?_
        have e90 : (o_g_pump_5 i what v) = (i 5) := by unfold o_g_pump_5; rw [if_neg c1, if_neg c2, if_neg c3, if_pos c4]
        have e91 : (o_g_pump_6 i what v) = v := by unfold o_g_pump_6; rw [if_neg c1, if_neg c2, if_neg c3, if_pos c4]
        have hP : va_P g.1 vwCl [(h0, .inr (12, mO q (upd (upd i 5 (o_g_pump_5 i what v)) 6 (o_g_pump_6 i what v)) L))] H := by rw [e90, e91]; exact hP
        have hD : va_D A [(h0, .inr (12, mO q (upd (upd i 5 (o_g_pump_5 i what v)) 6 (o_g_pump_6 i what v)) L))] := by rw [e90, e91]; exact hD
        exact retI C hS () (by unfold r_g_pump; rw [if_neg c1, if_neg c2, if_neg c3, if_pos c4]) (hP.pick [0] rfl) (hD.sub [0] rfl rfl) (Nat.le_of_ble_eq_true rfl) (Nat.le_of_ble_eq_true rfl) dX12_pump_78
      refine lv_aload_n hx hb dX12_pump_32 rfl (lv_at hl 0 rfl) ?_
      refine va_get (D := g.1) (ci := 12) (v := .int (i 5)) (C := RX12) (T := TX12) (N := 66) hx hb hts hg_X12_pump_X12 hown hK hP 0 rfl rfl 5 (by decide) (hts (.fieldLink RX12 184 "OilPushModel" "gives" "I") (by decide +kernel)) (fun _ h => h) rfl dX12_pump_33 ?_
      refine lv_goto (tgt := 43) hx hb dX12_pump_36 (by decide) ?_
      refine lv_istore_n (lv' := [(3, .int (i 5)), (0, .ref h0), (1, .int what), (2, .int v)]) hx hb dX12_pump_43 rfl hl (by decide) rfl (fun ls hl => ?_)
      refine lv_aload_n hx hb dX12_pump_44 rfl (lv_at hl 1 rfl) ?_
      refine lv_iload_n hx hb dX12_pump_45 rfl (lv_at hl 2 rfl) ?_
      refine lv_if_ne (tgt := 53) hx hb dX12_pump_46 (by decide) (fun cc0 => absurd c3 cc0) (fun _ => ?_)
      refine lv_iload_n hx hb dX12_pump_49 rfl (lv_at hl 3 rfl) ?_
      refine lv_goto (tgt := 57) hx hb dX12_pump_50 (by decide) ?_
      refine va_put (D := g.1) (ci := 12) (v := .int v) (ty := .int) (C := RX12) (T := TX12) (N := 66) hx hb hts hg_X12_pump_X12 tyX12 tyX12_ok nmX12 hown hK hP hD hS 0 rfl rfl 5 (by decide) (hts (.fieldLink RX12 184 "OilPushModel" "gives" "I") (by decide +kernel)) (fun _ h => h) rfl (by decide +kernel) rfl rfl (Nat.le_of_ble_eq_true rfl) dX12_pump_57 (fun H locs hP hD hS => ?_)
      have hP : va_P g.1 vwCl [(h0, .inr (12, mO q (upd i 5 v) L))] H := hP
      have hD : va_D A [(h0, .inr (12, mO q (upd i 5 v) L))] := hD
      refine lv_aload_n hx hb dX12_pump_60 rfl (lv_at hl 1 rfl) ?_
      refine lv_iload_n hx hb dX12_pump_61 rfl (lv_at hl 2 rfl) ?_
      refine lv_iconst (v := 1) hx hb dX12_pump_62 (by decide) ?_
      refine lv_icmp_ne (tgt := 70) hx hb dX12_pump_63 (by decide) (fun c5 => ?_) (fun c5 => ?_)
      · refine lv_aload_n hx hb dX12_pump_70 rfl (lv_at hl 1 rfl) ?_
        refine va_get (D := g.1) (ci := 12) (v := .int (i 6)) (C := RX12) (T := TX12) (N := 66) hx hb hts hg_X12_pump_X12 hown hK hP 0 rfl rfl 6 (by decide) (hts (.fieldLink RX12 129 "OilPushModel" "limit" "I") (by decide +kernel)) (fun _ h => h) rfl dX12_pump_71 ?_
        refine va_put (D := g.1) (ci := 12) (v := .int (i 6)) (ty := .int) (C := RX12) (T := TX12) (N := 66) hx hb hts hg_X12_pump_X12 tyX12 tyX12_ok nmX12 hown hK hP hD hS 0 rfl rfl 6 (by decide) (hts (.fieldLink RX12 129 "OilPushModel" "limit" "I") (by decide +kernel)) (fun _ h => h) rfl (by decide +kernel) rfl rfl (Nat.le_of_ble_eq_true rfl) dX12_pump_74 (fun H locs hP hD hS => ?_)
        have hP : va_P g.1 vwCl [(h0, .inr (12, mO q (upd i 5 v) L))] H := hP
        have hD : va_D A [(h0, .inr (12, mO q (upd i 5 v) L))] := hD
        refine lv_iload_n hx hb dX12_pump_77 rfl (lv_at hl 0 rfl) ?_
        have e90 : (o_g_pump_5 i what v) = v := by unfold o_g_pump_5; rw [if_neg c1, if_neg c2, if_pos c3, if_neg c5]
        have e91 : (o_g_pump_6 i what v) = (i 6) := by unfold o_g_pump_6; rw [if_neg c1, if_neg c2, if_pos c3, if_neg c5]
        have hP : va_P g.1 vwCl [(h0, .inr (12, mO q (upd (upd i 5 (o_g_pump_5 i what v)) 6 (o_g_pump_6 i what v)) L))] H := by rw [e90, e91]; exact hP
        have hD : va_D A [(h0, .inr (12, mO q (upd (upd i 5 (o_g_pump_5 i what v)) 6 (o_g_pump_6 i what v)) L))] := by rw [e90, e91]; exact hD
        exact retI C hS () (by unfold r_g_pump; rw [if_neg c1, if_neg c2, if_pos c3, if_neg c5]) (hP.pick [0] rfl) (hD.sub [0] rfl rfl) (Nat.le_of_ble_eq_true rfl) (Nat.le_of_ble_eq_true rfl) dX12_pump_78
      refine lv_iload_n hx hb dX12_pump_66 rfl (lv_at hl 3 rfl) ?_
      refine lv_goto (tgt := 74) hx hb dX12_pump_67 (by decide) ?_
      refine va_put (D := g.1) (ci := 12) (v := .int v) (ty := .int) (C := RX12) (T := TX12) (N := 66) hx hb hts hg_X12_pump_X12 tyX12 tyX12_ok nmX12 hown hK hP hD hS 0 rfl rfl 6 (by decide) (hts (.fieldLink RX12 129 "OilPushModel" "limit" "I") (by decide +kernel)) (fun _ h => h) rfl (by decide +kernel) rfl rfl (Nat.le_of_ble_eq_true rfl) dX12_pump_74 (fun H locs hP hD hS => ?_)
      have hP : va_P g.1 vwCl [(h0, .inr (12, mO q (upd (upd i 5 v) 6 v) L))] H := hP
      have hD : va_D A [(h0, .inr (12, mO q (upd (upd i 5 v) 6 v) L))] := hD
      refine lv_iload_n hx hb dX12_pump_77 rfl (lv_at hl 0 rfl) ?_
      have e90 : (o_g_pump_5 i what v) = v := by unfold o_g_pump_5; rw [if_neg c1, if_neg c2, if_pos c3, if_pos c5]
      have e91 : (o_g_pump_6 i what v) = v := by unfold o_g_pump_6; rw [if_neg c1, if_neg c2, if_pos c3, if_pos c5]
      have hP : va_P g.1 vwCl [(h0, .inr (12, mO q (upd (upd i 5 (o_g_pump_5 i what v)) 6 (o_g_pump_6 i what v)) L))] H := by rw [e90, e91]; exact hP
      have hD : va_D A [(h0, .inr (12, mO q (upd (upd i 5 (o_g_pump_5 i what v)) 6 (o_g_pump_6 i what v)) L))] := by rw [e90, e91]; exact hD
      exact retI C hS () (by unfold r_g_pump; rw [if_neg c1, if_neg c2, if_pos c3, if_pos c5]) (hP.pick [0] rfl) (hD.sub [0] rfl rfl) (Nat.le_of_ble_eq_true rfl) (Nat.le_of_ble_eq_true rfl) dX12_pump_78
    refine lv_bipush (v := -2) hx hb dX12_pump_25 (by decide) ?_
    have e90 : (o_g_pump_5 i what v) = (i 5) := by unfold o_g_pump_5; rw [if_neg c1, if_pos c2]
    have e91 : (o_g_pump_6 i what v) = (i 6) := by unfold o_g_pump_6; rw [if_neg c1, if_pos c2]
    have hP : va_P g.1 vwCl [(h0, .inr (12, mO q (upd (upd i 5 (o_g_pump_5 i what v)) 6 (o_g_pump_6 i what v)) L))] H := by rw [e90, e91]; exact hP
    have hD : va_D A [(h0, .inr (12, mO q (upd (upd i 5 (o_g_pump_5 i what v)) 6 (o_g_pump_6 i what v)) L))] := by rw [e90, e91]; exact hD
    exact retI C hS () (by unfold r_g_pump; rw [if_neg c1, if_pos c2]) (hP.pick [0] rfl) (hD.sub [0] rfl rfl) (Nat.le_of_ble_eq_true rfl) (Nat.le_of_ble_eq_true rfl) dX12_pump_27
  refine lv_iconst (v := -1) hx hb dX12_pump_10 (by decide) ?_
  have e90 : (o_g_pump_5 i what v) = (i 5) := by unfold o_g_pump_5; rw [if_pos c1]
  have e91 : (o_g_pump_6 i what v) = (i 6) := by unfold o_g_pump_6; rw [if_pos c1]
  have hP : va_P g.1 vwCl [(h0, .inr (12, mO q (upd (upd i 5 (o_g_pump_5 i what v)) 6 (o_g_pump_6 i what v)) L))] H := by rw [e90, e91]; exact hP
  have hD : va_D A [(h0, .inr (12, mO q (upd (upd i 5 (o_g_pump_5 i what v)) 6 (o_g_pump_6 i what v)) L))] := by rw [e90, e91]; exact hD
  exact retI C hS () (by unfold r_g_pump; rw [if_pos c1]) (hP.pick [0] rfl) (hD.sub [0] rfl rfl) (Nat.le_of_ble_eq_true rfl) (Nat.le_of_ble_eq_true rfl) dX12_pump_11
theorem hg_X12_store_X12 : ∀ w ∈ wsX120, w ∈ wsX12_store := fun w h => List.mem_cons_of_mem _ (List.mem_append_right _ h)
def r_g_store (i : Nat → Int32) (x1 : Int32) (x2 : Int32) (x3 : Int32) : Int32 := (if (r_c_in (Int32.toInt64 x1) 0 5000) = 0 then (-2) else (if (r_c_in (Int32.toInt64 x2) 0 1000) = 0 then (-2) else (if (r_c_in (Int32.toInt64 x3) 1 100) = 0 then (-2) else (if (i 23) ≤ x1 then 1 else (-3)))))
def o_g_store_20 (i : Nat → Int32) (x1 : Int32) (x2 : Int32) (x3 : Int32) : Int32 := (if (r_c_in (Int32.toInt64 x1) 0 5000) = 0 then (i 20) else (if (r_c_in (Int32.toInt64 x2) 0 1000) = 0 then (i 20) else (if (r_c_in (Int32.toInt64 x3) 1 100) = 0 then (i 20) else (if (i 23) ≤ x1 then x1 else (i 20)))))
def o_g_store_21 (i : Nat → Int32) (x1 : Int32) (x2 : Int32) (x3 : Int32) : Int32 := (if (r_c_in (Int32.toInt64 x1) 0 5000) = 0 then (i 21) else (if (r_c_in (Int32.toInt64 x2) 0 1000) = 0 then (i 21) else (if (r_c_in (Int32.toInt64 x3) 1 100) = 0 then (i 21) else (if (i 23) ≤ x1 then x2 else (i 21)))))
def o_g_store_22 (i : Nat → Int32) (x1 : Int32) (x2 : Int32) (x3 : Int32) : Int32 := (if (r_c_in (Int32.toInt64 x1) 0 5000) = 0 then (i 22) else (if (r_c_in (Int32.toInt64 x2) 0 1000) = 0 then (i 22) else (if (r_c_in (Int32.toInt64 x3) 1 100) = 0 then (i 22) else (if (i 23) ≤ x1 then x3 else (i 22)))))
set_option maxRecDepth 100000 in
set_option maxHeartbeats 4000000 in
theorem g_store (l : Launch) (g : Gt) (h0 : Nat) (q : Nat → Nat) (i : Nat → Int32) (L : Nat → Int64) (x1 : Int32) (x2 : Int32) (x3 : Int32)  : Ctr l g yX12_store wsX12_store ({ frames := 1, cells := 0, slots := 0, locals := 25 } : Room) [.ref h0, .int x1, .int x2, .int x3] [(h0, .inr (12, mO q i L))] (fun A => QI g A (fun r (_ : Unit) => r = (r_g_store i x1 x2 x3)) (fun _u : Unit => [(h0, .inr (12, mO q (upd (upd (upd i 20 (o_g_store_20 i x1 x2 x3)) 21 (o_g_store_21 i x1 x2 x3)) 22 (o_g_store_22 i x1 x2 x3)) L))])) := by
  refine Ctr.of (cc := cX12_store) (maxL := 4) (ret := (some .int)) (by decide) rfl (Nat.le_of_ble_eq_true rfl) ?_
  intro p e s m below meth c A ls H C hP hD hA hS hl
  obtain ⟨hx, hb, hr, hts, hown, hlocks, hml, hin, hKN⟩ := id C
  have hK := hKN.1
  have hN := hKN.2
  have F : CallFix p m c cX12_store 4 s _ wsX12_store yX12_store.cls := ⟨hx, hb, hml, hown, hts⟩
  have hl : lv_has ls 4 [(0, .ref h0), (1, .int x1), (2, .int x2), (3, .int x3)] := hl
  refine lv_iload_n hx hb dX12_store_0 rfl (lv_at hl 1 rfl) ?_
  refine lv_i2l hx hb dX12_store_1 rfl ?_
  refine lv_lconst (v := 0) hx hb dX12_store_2 (by decide) ?_
  refine lv_ldc2 (v := 5000) hx hb hown (hts (.constantLong RX12 201 (5000)) (by decide +kernel)) dX12_store_3 ?_
  refine pureIS (As := [.long (Int32.toInt64 x1), .long 0, .long 5000]) (rest := []) F (c_in l (Int32.toInt64 x1) 0 5000) 3 gX12_store_X12_in rfl (by decide +kernel) rfl rfl ⟨(Nat.le_of_ble_eq_true rfl), (Nat.le_of_ble_eq_true rfl)⟩ (Nat.le_of_ble_eq_true rfl) (Nat.le_of_ble_eq_true rfl) rfl hl.1 rfl (Nat.le_of_ble_eq_true rfl) dX12_store_6 ?_
  refine lv_if_eq (tgt := 36) hx hb dX12_store_9 (by decide) (fun c1 => ?_) (fun c1 => ?_)
  · refine lv_bipush (v := -2) hx hb dX12_store_36 (by decide) ?_
    have e90 : (o_g_store_20 i x1 x2 x3) = (i 20) := by unfold o_g_store_20; rw [if_pos c1]
    have e91 : (o_g_store_21 i x1 x2 x3) = (i 21) := by unfold o_g_store_21; rw [if_pos c1]
    have e92 : (o_g_store_22 i x1 x2 x3) = (i 22) := by unfold o_g_store_22; rw [if_pos c1]
    have hP : va_P g.1 vwCl [(h0, .inr (12, mO q (upd (upd (upd i 20 (o_g_store_20 i x1 x2 x3)) 21 (o_g_store_21 i x1 x2 x3)) 22 (o_g_store_22 i x1 x2 x3)) L))] H := by rw [e90, e91, e92]; exact hP
    have hD : va_D A [(h0, .inr (12, mO q (upd (upd (upd i 20 (o_g_store_20 i x1 x2 x3)) 21 (o_g_store_21 i x1 x2 x3)) 22 (o_g_store_22 i x1 x2 x3)) L))] := by rw [e90, e91, e92]; exact hD
    exact retI C hS () (by unfold r_g_store; rw [if_pos c1]) (hP.pick [0] rfl) (hD.sub [0] rfl rfl) (Nat.le_of_ble_eq_true rfl) (Nat.le_of_ble_eq_true rfl) dX12_store_38
  refine lv_iload_n hx hb dX12_store_12 rfl (lv_at hl 2 rfl) ?_
  refine lv_i2l hx hb dX12_store_13 rfl ?_
  refine lv_lconst (v := 0) hx hb dX12_store_14 (by decide) ?_
  refine lv_ldc2 (v := 1000) hx hb hown (hts (.constantLong RX12 182 (1000)) (by decide +kernel)) dX12_store_15 ?_
  refine pureIS (As := [.long (Int32.toInt64 x2), .long 0, .long 1000]) (rest := []) F (c_in l (Int32.toInt64 x2) 0 1000) 3 gX12_store_X12_in rfl (by decide +kernel) rfl rfl ⟨(Nat.le_of_ble_eq_true rfl), (Nat.le_of_ble_eq_true rfl)⟩ (Nat.le_of_ble_eq_true rfl) (Nat.le_of_ble_eq_true rfl) rfl hl.1 rfl (Nat.le_of_ble_eq_true rfl) dX12_store_18 ?_
  refine lv_if_eq (tgt := 36) hx hb dX12_store_21 (by decide) (fun c2 => ?_) (fun c2 => ?_)
  · refine lv_bipush (v := -2) hx hb dX12_store_36 (by decide) ?_
    have e90 : (o_g_store_20 i x1 x2 x3) = (i 20) := by unfold o_g_store_20; rw [if_neg c1, if_pos c2]
    have e91 : (o_g_store_21 i x1 x2 x3) = (i 21) := by unfold o_g_store_21; rw [if_neg c1, if_pos c2]
    have e92 : (o_g_store_22 i x1 x2 x3) = (i 22) := by unfold o_g_store_22; rw [if_neg c1, if_pos c2]
    have hP : va_P g.1 vwCl [(h0, .inr (12, mO q (upd (upd (upd i 20 (o_g_store_20 i x1 x2 x3)) 21 (o_g_store_21 i x1 x2 x3)) 22 (o_g_store_22 i x1 x2 x3)) L))] H := by rw [e90, e91, e92]; exact hP
    have hD : va_D A [(h0, .inr (12, mO q (upd (upd (upd i 20 (o_g_store_20 i x1 x2 x3)) 21 (o_g_store_21 i x1 x2 x3)) 22 (o_g_store_22 i x1 x2 x3)) L))] := by rw [e90, e91, e92]; exact hD
    exact retI C hS () (by unfold r_g_store; rw [if_neg c1, if_pos c2]) (hP.pick [0] rfl) (hD.sub [0] rfl rfl) (Nat.le_of_ble_eq_true rfl) (Nat.le_of_ble_eq_true rfl) dX12_store_38
  refine lv_iload_n hx hb dX12_store_24 rfl (lv_at hl 3 rfl) ?_
  refine lv_i2l hx hb dX12_store_25 rfl ?_
  refine lv_lconst (v := 1) hx hb dX12_store_26 (by decide) ?_
  refine lv_ldc2 (v := 100) hx hb hown (hts (.constantLong RX12 187 (100)) (by decide +kernel)) dX12_store_27 ?_
  refine pureIS (As := [.long (Int32.toInt64 x3), .long 1, .long 100]) (rest := []) F (c_in l (Int32.toInt64 x3) 1 100) 3 gX12_store_X12_in rfl (by decide +kernel) rfl rfl ⟨(Nat.le_of_ble_eq_true rfl), (Nat.le_of_ble_eq_true rfl)⟩ (Nat.le_of_ble_eq_true rfl) (Nat.le_of_ble_eq_true rfl) rfl hl.1 rfl (Nat.le_of_ble_eq_true rfl) dX12_store_30 ?_
  refine lv_if_ne (tgt := 39) hx hb dX12_store_33 (by decide) (fun c3 => ?_) (fun c3 => ?_)
  · refine lv_aload_n hx hb dX12_store_39 rfl (lv_at hl 0 rfl) ?_
    refine va_get (D := g.1) (ci := 12) (v := .int (i 23)) (C := RX12) (T := TX12) (N := 66) hx hb hts hg_X12_store_X12 hown hK hP 0 rfl rfl 23 (by decide) (hts (.fieldLink RX12 203 "OilPushModel" "kept" "I") (by decide +kernel)) (fun _ h => h) rfl dX12_store_40 ?_
    refine lv_iload_n hx hb dX12_store_43 rfl (lv_at hl 1 rfl) ?_
    refine lv_icmp_le (tgt := 50) hx hb dX12_store_44 (by decide) (fun c4 => ?_) (fun c4 => ?_)
    · refine lv_aload_n hx hb dX12_store_50 rfl (lv_at hl 0 rfl) ?_
      refine lv_iload_n hx hb dX12_store_51 rfl (lv_at hl 1 rfl) ?_
      refine va_put (D := g.1) (ci := 12) (v := .int x1) (ty := .int) (C := RX12) (T := TX12) (N := 66) hx hb hts hg_X12_store_X12 tyX12 tyX12_ok nmX12 hown hK hP hD hS 0 rfl rfl 20 (by decide) (hts (.fieldLink RX12 206 "OilPushModel" "cap" "I") (by decide +kernel)) (fun _ h => h) rfl (by decide +kernel) rfl rfl (Nat.le_of_ble_eq_true rfl) dX12_store_52 (fun H locs hP hD hS => ?_)
      have hP : va_P g.1 vwCl [(h0, .inr (12, mO q (upd i 20 x1) L))] H := hP
      have hD : va_D A [(h0, .inr (12, mO q (upd i 20 x1) L))] := hD
      refine lv_aload_n hx hb dX12_store_55 rfl (lv_at hl 0 rfl) ?_
      refine lv_iload_n hx hb dX12_store_56 rfl (lv_at hl 2 rfl) ?_
      refine va_put (D := g.1) (ci := 12) (v := .int x2) (ty := .int) (C := RX12) (T := TX12) (N := 66) hx hb hts hg_X12_store_X12 tyX12 tyX12_ok nmX12 hown hK hP hD hS 0 rfl rfl 21 (by decide) (hts (.fieldLink RX12 209 "OilPushModel" "first" "I") (by decide +kernel)) (fun _ h => h) rfl (by decide +kernel) rfl rfl (Nat.le_of_ble_eq_true rfl) dX12_store_57 (fun H locs hP hD hS => ?_)
      have hP : va_P g.1 vwCl [(h0, .inr (12, mO q (upd (upd i 20 x1) 21 x2) L))] H := hP
      have hD : va_D A [(h0, .inr (12, mO q (upd (upd i 20 x1) 21 x2) L))] := hD
      refine lv_aload_n hx hb dX12_store_60 rfl (lv_at hl 0 rfl) ?_
      refine lv_iload_n hx hb dX12_store_61 rfl (lv_at hl 3 rfl) ?_
      refine va_put (D := g.1) (ci := 12) (v := .int x3) (ty := .int) (C := RX12) (T := TX12) (N := 66) hx hb hts hg_X12_store_X12 tyX12 tyX12_ok nmX12 hown hK hP hD hS 0 rfl rfl 22 (by decide) (hts (.fieldLink RX12 133 "OilPushModel" "stiff" "I") (by decide +kernel)) (fun _ h => h) rfl (by decide +kernel) rfl rfl (Nat.le_of_ble_eq_true rfl) dX12_store_62 (fun H locs hP hD hS => ?_)
      have hP : va_P g.1 vwCl [(h0, .inr (12, mO q (upd (upd (upd i 20 x1) 21 x2) 22 x3) L))] H := hP
      have hD : va_D A [(h0, .inr (12, mO q (upd (upd (upd i 20 x1) 21 x2) 22 x3) L))] := hD
      refine lv_iconst (v := 1) hx hb dX12_store_65 (by decide) ?_
      have e90 : (o_g_store_20 i x1 x2 x3) = x1 := by unfold o_g_store_20; rw [if_neg c1, if_neg c2, if_neg c3, if_pos c4]
      have e91 : (o_g_store_21 i x1 x2 x3) = x2 := by unfold o_g_store_21; rw [if_neg c1, if_neg c2, if_neg c3, if_pos c4]
      have e92 : (o_g_store_22 i x1 x2 x3) = x3 := by unfold o_g_store_22; rw [if_neg c1, if_neg c2, if_neg c3, if_pos c4]
      have hP : va_P g.1 vwCl [(h0, .inr (12, mO q (upd (upd (upd i 20 (o_g_store_20 i x1 x2 x3)) 21 (o_g_store_21 i x1 x2 x3)) 22 (o_g_store_22 i x1 x2 x3)) L))] H := by rw [e90, e91, e92]; exact hP
      have hD : va_D A [(h0, .inr (12, mO q (upd (upd (upd i 20 (o_g_store_20 i x1 x2 x3)) 21 (o_g_store_21 i x1 x2 x3)) 22 (o_g_store_22 i x1 x2 x3)) L))] := by rw [e90, e91, e92]; exact hD
      exact retI C hS () (by unfold r_g_store; rw [if_neg c1, if_neg c2, if_neg c3, if_pos c4]) (hP.pick [0] rfl) (hD.sub [0] rfl rfl) (Nat.le_of_ble_eq_true rfl) (Nat.le_of_ble_eq_true rfl) dX12_store_66
    refine lv_bipush (v := -3) hx hb dX12_store_47 (by decide) ?_
    have e90 : (o_g_store_20 i x1 x2 x3) = (i 20) := by unfold o_g_store_20; rw [if_neg c1, if_neg c2, if_neg c3, if_neg c4]
    have e91 : (o_g_store_21 i x1 x2 x3) = (i 21) := by unfold o_g_store_21; rw [if_neg c1, if_neg c2, if_neg c3, if_neg c4]
    have e92 : (o_g_store_22 i x1 x2 x3) = (i 22) := by unfold o_g_store_22; rw [if_neg c1, if_neg c2, if_neg c3, if_neg c4]
    have hP : va_P g.1 vwCl [(h0, .inr (12, mO q (upd (upd (upd i 20 (o_g_store_20 i x1 x2 x3)) 21 (o_g_store_21 i x1 x2 x3)) 22 (o_g_store_22 i x1 x2 x3)) L))] H := by rw [e90, e91, e92]; exact hP
    have hD : va_D A [(h0, .inr (12, mO q (upd (upd (upd i 20 (o_g_store_20 i x1 x2 x3)) 21 (o_g_store_21 i x1 x2 x3)) 22 (o_g_store_22 i x1 x2 x3)) L))] := by rw [e90, e91, e92]; exact hD
    exact retI C hS () (by unfold r_g_store; rw [if_neg c1, if_neg c2, if_neg c3, if_neg c4]) (hP.pick [0] rfl) (hD.sub [0] rfl rfl) (Nat.le_of_ble_eq_true rfl) (Nat.le_of_ble_eq_true rfl) dX12_store_49
  refine lv_bipush (v := -2) hx hb dX12_store_36 (by decide) ?_
  have e90 : (o_g_store_20 i x1 x2 x3) = (i 20) := by unfold o_g_store_20; rw [if_neg c1, if_neg c2, if_pos c3]
  have e91 : (o_g_store_21 i x1 x2 x3) = (i 21) := by unfold o_g_store_21; rw [if_neg c1, if_neg c2, if_pos c3]
  have e92 : (o_g_store_22 i x1 x2 x3) = (i 22) := by unfold o_g_store_22; rw [if_neg c1, if_neg c2, if_pos c3]
  have hP : va_P g.1 vwCl [(h0, .inr (12, mO q (upd (upd (upd i 20 (o_g_store_20 i x1 x2 x3)) 21 (o_g_store_21 i x1 x2 x3)) 22 (o_g_store_22 i x1 x2 x3)) L))] H := by rw [e90, e91, e92]; exact hP
  have hD : va_D A [(h0, .inr (12, mO q (upd (upd (upd i 20 (o_g_store_20 i x1 x2 x3)) 21 (o_g_store_21 i x1 x2 x3)) 22 (o_g_store_22 i x1 x2 x3)) L))] := by rw [e90, e91, e92]; exact hD
  exact retI C hS () (by unfold r_g_store; rw [if_neg c1, if_neg c2, if_pos c3]) (hP.pick [0] rfl) (hD.sub [0] rfl rfl) (Nat.le_of_ble_eq_true rfl) (Nat.le_of_ble_eq_true rfl) dX12_store_38
theorem hg_X12_waits_X12 : ∀ w ∈ wsX120, w ∈ wsX12_waits := fun w h => List.mem_cons_of_mem _ (List.mem_append_right _ h)
set_option maxRecDepth 100000 in
set_option maxHeartbeats 4000000 in
theorem g_waits (l : Launch) (g : Gt) (h0 : Nat) (q : Nat → Nat) (i : Nat → Int32) (L : Nat → Int64)  : Ctr l g yX12_waits wsX12_waits ({ frames := 0, cells := 0, slots := 0, locals := 0 } : Room) [.ref h0] [(h0, .inr (12, mO q i L))] (fun A => QI g A (fun r (_ : Unit) => r = (i 29)) (fun _u : Unit => [(h0, .inr (12, mO q i L))])) := by
  refine Ctr.of (cc := cX12_waits) (maxL := 1) (ret := (some .int)) (by decide) rfl (Nat.le_of_ble_eq_true rfl) ?_
  intro p e s m below meth c A ls H C hP hD hA hS hl
  obtain ⟨hx, hb, hr, hts, hown, hlocks, hml, hin, hKN⟩ := id C
  have hK := hKN.1
  have hN := hKN.2
  have F : CallFix p m c cX12_waits 1 s _ wsX12_waits yX12_waits.cls := ⟨hx, hb, hml, hown, hts⟩
  have hl : lv_has ls 1 [(0, .ref h0)] := hl
  refine lv_aload_n hx hb dX12_waits_0 rfl (lv_at hl 0 rfl) ?_
  refine va_get (D := g.1) (ci := 12) (v := .int (i 29)) (C := RX12) (T := TX12) (N := 66) hx hb hts hg_X12_waits_X12 hown hK hP 0 rfl rfl 29 (by decide) (hts (.fieldLink RX12 224 "OilPushModel" "waiting" "I") (by decide +kernel)) (fun _ h => h) rfl dX12_waits_1 ?_
  exact retI C hS () rfl (hP.pick [0] rfl) (hD.sub [0] rfl rfl) (Nat.le_of_ble_eq_true rfl) (Nat.le_of_ble_eq_true rfl) dX12_waits_4
theorem hg_X12_forget_X12 : ∀ w ∈ wsX120, w ∈ wsX12_forget := fun w h => List.mem_cons_of_mem _ (List.mem_append_right _ h)
set_option maxRecDepth 100000 in
set_option maxHeartbeats 4000000 in
theorem g_forget (l : Launch) (g : Gt) (h0 : Nat) (q : Nat → Nat) (i : Nat → Int32) (L : Nat → Int64)  : Ctr l g yX12_forget wsX12_forget ({ frames := 0, cells := 0, slots := 0, locals := 0 } : Room) [.ref h0] [(h0, .inr (12, mO q i L))] (fun A => QI g A (fun r (_ : Unit) => r = (i 52)) (fun _u : Unit => [(h0, .inr (12, mO q (upd i 52 0) L))])) := by
  refine Ctr.of (cc := cX12_forget) (maxL := 2) (ret := (some .int)) (by decide) rfl (Nat.le_of_ble_eq_true rfl) ?_
  intro p e s m below meth c A ls H C hP hD hA hS hl
  obtain ⟨hx, hb, hr, hts, hown, hlocks, hml, hin, hKN⟩ := id C
  have hK := hKN.1
  have hN := hKN.2
  have F : CallFix p m c cX12_forget 2 s _ wsX12_forget yX12_forget.cls := ⟨hx, hb, hml, hown, hts⟩
  have hl : lv_has ls 2 [(0, .ref h0)] := hl
  refine lv_aload_n hx hb dX12_forget_0 rfl (lv_at hl 0 rfl) ?_
  refine va_get (D := g.1) (ci := 12) (v := .int (i 52)) (C := RX12) (T := TX12) (N := 66) hx hb hts hg_X12_forget_X12 hown hK hP 0 rfl rfl 52 (by decide) (hts (.fieldLink RX12 291 "OilPushModel" "readings" "I") (by decide +kernel)) (fun _ h => h) rfl dX12_forget_1 ?_
  refine lv_istore_n (lv' := [(1, .int (i 52)), (0, .ref h0)]) hx hb dX12_forget_4 rfl hl (by decide) rfl (fun ls hl => ?_)
  refine lv_aload_n hx hb dX12_forget_5 rfl (lv_at hl 1 rfl) ?_
  refine lv_iconst (v := 0) hx hb dX12_forget_6 (by decide) ?_
  refine va_put (D := g.1) (ci := 12) (v := .int 0) (ty := .int) (C := RX12) (T := TX12) (N := 66) hx hb hts hg_X12_forget_X12 tyX12 tyX12_ok nmX12 hown hK hP hD hS 0 rfl rfl 52 (by decide) (hts (.fieldLink RX12 291 "OilPushModel" "readings" "I") (by decide +kernel)) (fun _ h => h) rfl (by decide +kernel) rfl rfl (Nat.le_of_ble_eq_true rfl) dX12_forget_7 (fun H locs hP hD hS => ?_)
  have hP : va_P g.1 vwCl [(h0, .inr (12, mO q (upd i 52 0) L))] H := hP
  have hD : va_D A [(h0, .inr (12, mO q (upd i 52 0) L))] := hD
  refine lv_iload_n hx hb dX12_forget_10 rfl (lv_at hl 0 rfl) ?_
  exact retI C hS () rfl (hP.pick [0] rfl) (hD.sub [0] rfl rfl) (Nat.le_of_ble_eq_true rfl) (Nat.le_of_ble_eq_true rfl) dX12_forget_11
theorem hg_X12_trace_X12 : ∀ w ∈ wsX120, w ∈ wsX12_trace := fun w h => List.mem_cons_of_mem _ (List.mem_append_right _ h)
set_option maxRecDepth 100000 in
set_option maxHeartbeats 4000000 in
theorem g_trace (l : Launch) (g : Gt) (h0 : Nat) (q : Nat → Nat) (i : Nat → Int32) (L : Nat → Int64)  : Ctr l g yX12_trace wsX12_trace ({ frames := 0, cells := 0, slots := 0, locals := 0 } : Room) [.ref h0] [(h0, .inr (12, mO q i L))] (fun A => QI g A (fun r (_ : Unit) => r = (i 65)) (fun _u : Unit => [(h0, .inr (12, mO q i L))])) := by
  refine Ctr.of (cc := cX12_trace) (maxL := 1) (ret := (some .int)) (by decide) rfl (Nat.le_of_ble_eq_true rfl) ?_
  intro p e s m below meth c A ls H C hP hD hA hS hl
  obtain ⟨hx, hb, hr, hts, hown, hlocks, hml, hin, hKN⟩ := id C
  have hK := hKN.1
  have hN := hKN.2
  have F : CallFix p m c cX12_trace 1 s _ wsX12_trace yX12_trace.cls := ⟨hx, hb, hml, hown, hts⟩
  have hl : lv_has ls 1 [(0, .ref h0)] := hl
  refine lv_aload_n hx hb dX12_trace_0 rfl (lv_at hl 0 rfl) ?_
  refine va_get (D := g.1) (ci := 12) (v := .int (i 65)) (C := RX12) (T := TX12) (N := 66) hx hb hts hg_X12_trace_X12 hown hK hP 0 rfl rfl 65 (by decide) (hts (.fieldLink RX12 313 "OilPushModel" "trace" "I") (by decide +kernel)) (fun _ h => h) rfl dX12_trace_1 ?_
  exact retI C hS () rfl (hP.pick [0] rfl) (hD.sub [0] rfl rfl) (Nat.le_of_ble_eq_true rfl) (Nat.le_of_ble_eq_true rfl) dX12_trace_4
theorem hg_X12_fault_X12 : ∀ w ∈ wsX120, w ∈ wsX12_fault := fun w h => List.mem_cons_of_mem _ (List.mem_append_right _ h)
set_option maxRecDepth 100000 in
set_option maxHeartbeats 4000000 in
theorem g_fault (l : Launch) (g : Gt) (h0 : Nat) (q : Nat → Nat) (i : Nat → Int32) (L : Nat → Int64)  : Ctr l g yX12_fault wsX12_fault ({ frames := 0, cells := 0, slots := 0, locals := 0 } : Room) [.ref h0] [(h0, .inr (12, mO q i L))] (fun A => QI g A (fun r (_ : Unit) => r = (i 0)) (fun _u : Unit => [(h0, .inr (12, mO q i L))])) := by
  refine Ctr.of (cc := cX12_fault) (maxL := 1) (ret := (some .int)) (by decide) rfl (Nat.le_of_ble_eq_true rfl) ?_
  intro p e s m below meth c A ls H C hP hD hA hS hl
  obtain ⟨hx, hb, hr, hts, hown, hlocks, hml, hin, hKN⟩ := id C
  have hK := hKN.1
  have hN := hKN.2
  have F : CallFix p m c cX12_fault 1 s _ wsX12_fault yX12_fault.cls := ⟨hx, hb, hml, hown, hts⟩
  have hl : lv_has ls 1 [(0, .ref h0)] := hl
  refine lv_aload_n hx hb dX12_fault_0 rfl (lv_at hl 0 rfl) ?_
  refine va_get (D := g.1) (ci := 12) (v := .int (i 0)) (C := RX12) (T := TX12) (N := 66) hx hb hts hg_X12_fault_X12 hown hK hP 0 rfl rfl 0 (by decide) (hts (.fieldLink RX12 141 "OilPushModel" "fault" "I") (by decide +kernel)) (fun _ h => h) rfl dX12_fault_1 ?_
  exact retI C hS () rfl (hP.pick [0] rfl) (hD.sub [0] rfl rfl) (Nat.le_of_ble_eq_true rfl) (Nat.le_of_ble_eq_true rfl) dX12_fault_4
theorem hg_X12_gauge_X12 : ∀ w ∈ wsX120, w ∈ wsX12_gauge := fun w h => List.mem_cons_of_mem _ (List.mem_append_right _ h)
def r_g_gauge (i : Nat → Int32) (what : Int32) : Int32 := (if (r_c_in (Int32.toInt64 what) 0 3) = 0 then (-2) else (if (i 31) = 0 then (-3) else (if what = 0 then (i 32) else (if what = 1 then (i 33) else (if what = 2 then (i 34) else (i 35))))))
set_option maxRecDepth 100000 in
set_option maxHeartbeats 4000000 in
theorem g_gauge (l : Launch) (g : Gt) (h0 : Nat) (q : Nat → Nat) (i : Nat → Int32) (L : Nat → Int64) (what : Int32)  : Ctr l g yX12_gauge wsX12_gauge ({ frames := 1, cells := 0, slots := 0, locals := 25 } : Room) [.ref h0, .int what] [(h0, .inr (12, mO q i L))] (fun A => QI g A (fun r (_ : Unit) => r = (r_g_gauge i what)) (fun _u : Unit => [(h0, .inr (12, mO q i L))])) := by
  refine Ctr.of (cc := cX12_gauge) (maxL := 2) (ret := (some .int)) (by decide) rfl (Nat.le_of_ble_eq_true rfl) ?_
  intro p e s m below meth c A ls H C hP hD hA hS hl
  obtain ⟨hx, hb, hr, hts, hown, hlocks, hml, hin, hKN⟩ := id C
  have hK := hKN.1
  have hN := hKN.2
  have F : CallFix p m c cX12_gauge 2 s _ wsX12_gauge yX12_gauge.cls := ⟨hx, hb, hml, hown, hts⟩
  have hl : lv_has ls 2 [(0, .ref h0), (1, .int what)] := hl
  refine lv_iload_n hx hb dX12_gauge_0 rfl (lv_at hl 1 rfl) ?_
  refine lv_i2l hx hb dX12_gauge_1 rfl ?_
  refine lv_lconst (v := 0) hx hb dX12_gauge_2 (by decide) ?_
  refine lv_ldc2 (v := 3) hx hb hown (hts (.constantLong RX12 148 (3)) (by decide +kernel)) dX12_gauge_3 ?_
  refine pureIS (As := [.long (Int32.toInt64 what), .long 0, .long 3]) (rest := []) F (c_in l (Int32.toInt64 what) 0 3) 3 gX12_gauge_X12_in rfl (by decide +kernel) rfl rfl ⟨(Nat.le_of_ble_eq_true rfl), (Nat.le_of_ble_eq_true rfl)⟩ (Nat.le_of_ble_eq_true rfl) (Nat.le_of_ble_eq_true rfl) rfl hl.1 rfl (Nat.le_of_ble_eq_true rfl) dX12_gauge_6 ?_
  refine lv_if_ne (tgt := 15) hx hb dX12_gauge_9 (by decide) (fun c1 => ?_) (fun c1 => ?_)
  · refine lv_aload_n hx hb dX12_gauge_15 rfl (lv_at hl 0 rfl) ?_
    refine va_get (D := g.1) (ci := 12) (v := .int (i 31)) (C := RX12) (T := TX12) (N := 66) hx hb hts hg_X12_gauge_X12 hown hK hP 0 rfl rfl 31 (by decide) (hts (.fieldLink RX12 269 "OilPushModel" "isTicked" "Z") (by decide +kernel)) (fun _ h => h) rfl dX12_gauge_16 ?_
    refine lv_if_ne (tgt := 25) hx hb dX12_gauge_19 (by decide) (fun c2 => ?_) (fun c2 => ?_)
    · refine lv_iload_n hx hb dX12_gauge_25 rfl (lv_at hl 1 rfl) ?_
      refine lv_if_ne (tgt := 36) hx hb dX12_gauge_26 (by decide) (fun c3 => ?_) (fun c3 => ?_)
      · refine lv_iload_n hx hb dX12_gauge_36 rfl (lv_at hl 1 rfl) ?_
        refine lv_iconst (v := 1) hx hb dX12_gauge_37 (by decide) ?_
        refine lv_icmp_ne (tgt := 48) hx hb dX12_gauge_38 (by decide) (fun c4 => ?_) (fun c4 => ?_)
        · refine lv_iload_n hx hb dX12_gauge_48 rfl (lv_at hl 1 rfl) ?_
          refine lv_iconst (v := 2) hx hb dX12_gauge_49 (by decide) ?_
          refine lv_icmp_ne (tgt := 60) hx hb dX12_gauge_50 (by decide) (fun c5 => ?_) (fun c5 => ?_)
          · refine lv_aload_n hx hb dX12_gauge_60 rfl (lv_at hl 0 rfl) ?_
            refine va_get (D := g.1) (ci := 12) (v := .int (i 35)) (C := RX12) (T := TX12) (N := 66) hx hb hts hg_X12_gauge_X12 hown hK hP 0 rfl rfl 35 (by decide) (hts (.fieldLink RX12 246 "OilPushModel" "movers" "I") (by decide +kernel)) (fun _ h => h) rfl dX12_gauge_61 ?_
            exact retI C hS () (by unfold r_g_gauge; rw [if_neg c1, if_neg c2, if_neg c3, if_neg c4, if_neg c5]) (hP.pick [0] rfl) (hD.sub [0] rfl rfl) (Nat.le_of_ble_eq_true rfl) (Nat.le_of_ble_eq_true rfl) dX12_gauge_64
          refine lv_aload_n hx hb dX12_gauge_53 rfl (lv_at hl 0 rfl) ?_
          refine va_get (D := g.1) (ci := 12) (v := .int (i 34)) (C := RX12) (T := TX12) (N := 66) hx hb hts hg_X12_gauge_X12 hown hK hP 0 rfl rfl 34 (by decide) (hts (.fieldLink RX12 253 "OilPushModel" "storeTook" "I") (by decide +kernel)) (fun _ h => h) rfl dX12_gauge_54 ?_
          refine lv_goto (tgt := 64) hx hb dX12_gauge_57 (by decide) ?_
          exact retI C hS () (by unfold r_g_gauge; rw [if_neg c1, if_neg c2, if_neg c3, if_neg c4, if_pos c5]) (hP.pick [0] rfl) (hD.sub [0] rfl rfl) (Nat.le_of_ble_eq_true rfl) (Nat.le_of_ble_eq_true rfl) dX12_gauge_64
        refine lv_aload_n hx hb dX12_gauge_41 rfl (lv_at hl 0 rfl) ?_
        refine va_get (D := g.1) (ci := 12) (v := .int (i 33)) (C := RX12) (T := TX12) (N := 66) hx hb hts hg_X12_gauge_X12 hown hK hP 0 rfl rfl 33 (by decide) (hts (.fieldLink RX12 256 "OilPushModel" "over" "I") (by decide +kernel)) (fun _ h => h) rfl dX12_gauge_42 ?_
        refine lv_goto (tgt := 64) hx hb dX12_gauge_45 (by decide) ?_
        exact retI C hS () (by unfold r_g_gauge; rw [if_neg c1, if_neg c2, if_neg c3, if_pos c4]) (hP.pick [0] rfl) (hD.sub [0] rfl rfl) (Nat.le_of_ble_eq_true rfl) (Nat.le_of_ble_eq_true rfl) dX12_gauge_64
      refine lv_aload_n hx hb dX12_gauge_29 rfl (lv_at hl 0 rfl) ?_
      refine va_get (D := g.1) (ci := 12) (v := .int (i 32)) (C := RX12) (T := TX12) (N := 66) hx hb hts hg_X12_gauge_X12 hown hK hP 0 rfl rfl 32 (by decide) (hts (.fieldLink RX12 243 "OilPushModel" "pressure" "I") (by decide +kernel)) (fun _ h => h) rfl dX12_gauge_30 ?_
      refine lv_goto (tgt := 64) hx hb dX12_gauge_33 (by decide) ?_
      exact retI C hS () (by unfold r_g_gauge; rw [if_neg c1, if_neg c2, if_pos c3]) (hP.pick [0] rfl) (hD.sub [0] rfl rfl) (Nat.le_of_ble_eq_true rfl) (Nat.le_of_ble_eq_true rfl) dX12_gauge_64
    refine lv_bipush (v := -3) hx hb dX12_gauge_22 (by decide) ?_
    exact retI C hS () (by unfold r_g_gauge; rw [if_neg c1, if_pos c2]) (hP.pick [0] rfl) (hD.sub [0] rfl rfl) (Nat.le_of_ble_eq_true rfl) (Nat.le_of_ble_eq_true rfl) dX12_gauge_24
  refine lv_bipush (v := -2) hx hb dX12_gauge_12 (by decide) ?_
  exact retI C hS () (by unfold r_g_gauge; rw [if_pos c1]) (hP.pick [0] rfl) (hD.sub [0] rfl rfl) (Nat.le_of_ble_eq_true rfl) (Nat.le_of_ble_eq_true rfl) dX12_gauge_14
theorem hg_X12_lose_X12 : ∀ w ∈ wsX120, w ∈ wsX12_lose := fun w h => List.mem_cons_of_mem _ (List.mem_append_right _ h)
def r_g_lose (a1 : Nat → Int32) (k : Int32) : Int32 := (if (r_c_noSheet k) = 0 then (if 0 ≤ (a1 (k.toNatClampNeg)) then 1 else 0) else (-1))
def o_g_lose_q1 (a1 : Nat → Int32) (k : Int32) : Nat → Int32 := (if (r_c_noSheet k) = 0 then (if 0 ≤ (a1 (k.toNatClampNeg)) then (upd a1 (k.toNatClampNeg) (-1)) else (upd a1 (k.toNatClampNeg) (-1))) else a1)
set_option maxRecDepth 100000 in
set_option maxHeartbeats 4000000 in
theorem g_lose (l : Launch) (g : Gt) (h0 : Nat) (q : Nat → Nat) (i : Nat → Int32) (L : Nat → Int64) (a1 : Nat → Int32) (k : Int32)  : Ctr l g yX12_lose wsX12_lose ({ frames := 2, cells := 0, slots := 0, locals := 45 } : Room) [.ref h0, .int k] [(h0, .inr (12, mO q i L)), ((q 1), .inl (g.2 0, 4, .inl a1))] (fun A => QI g A (fun r (_ : Unit) => r = (r_g_lose a1 k)) (fun _u : Unit => [(h0, .inr (12, mO q i L)), ((q 1), .inl (g.2 0, 4, .inl (o_g_lose_q1 a1 k)))])) := by
  refine Ctr.of (cc := cX12_lose) (maxL := 3) (ret := (some .int)) (by decide) rfl (Nat.le_of_ble_eq_true rfl) ?_
  intro p e s m below meth c A ls H C hP hD hA hS hl
  obtain ⟨hx, hb, hr, hts, hown, hlocks, hml, hin, hKN⟩ := id C
  have hK := hKN.1
  have hN := hKN.2
  have F : CallFix p m c cX12_lose 3 s _ wsX12_lose yX12_lose.cls := ⟨hx, hb, hml, hown, hts⟩
  have hl : lv_has ls 3 [(0, .ref h0), (1, .int k)] := hl
  refine lv_iload_n hx hb dX12_lose_0 rfl (lv_at hl 1 rfl) ?_
  refine pureIS (As := [.int k]) (rest := []) F (c_noSheet l k) 1 gX12_lose_X12_noSheet rfl (by decide +kernel) rfl rfl ⟨(Nat.le_of_ble_eq_true rfl), (Nat.le_of_ble_eq_true rfl)⟩ (Nat.le_of_ble_eq_true rfl) (Nat.le_of_ble_eq_true rfl) rfl hl.1 rfl (Nat.le_of_ble_eq_true rfl) dX12_lose_1 ?_
  refine lv_if_eq (tgt := 9) hx hb dX12_lose_4 (by decide) (fun c1 => ?_) (fun c1 => ?_)
  · refine lv_aload_n hx hb dX12_lose_9 rfl (lv_at hl 0 rfl) ?_
    refine va_get (D := g.1) (ci := 12) (v := .ref (q 1)) (C := RX12) (T := TX12) (N := 66) hx hb hts hg_X12_lose_X12 hown hK hP 0 rfl rfl 1 (by decide) (hts (.fieldLink RX12 7 "OilPushModel" "sheetSize" "[I") (by decide +kernel)) (fun _ h => h) rfl dX12_lose_10 ?_
    refine lv_iload_n hx hb dX12_lose_13 rfl (lv_at hl 1 rfl) ?_
    refine va_iald hx hb hK hP 1 0 rfl rfl (noSheet_in c1) dX12_lose_14 ?_
    refine lv_if_ge (tgt := 22) hx hb dX12_lose_15 (by decide) (fun c2 => ?_) (fun c2 => ?_)
    · refine lv_iconst (v := 1) hx hb dX12_lose_22 (by decide) ?_
      refine lv_istore_n (lv' := [(2, .int 1), (0, .ref h0), (1, .int k)]) hx hb dX12_lose_23 rfl hl (by decide) rfl (fun ls hl => ?_)
      refine lv_aload_n hx hb dX12_lose_24 rfl (lv_at hl 1 rfl) ?_
      refine va_get (D := g.1) (ci := 12) (v := .ref (q 1)) (C := RX12) (T := TX12) (N := 66) hx hb hts hg_X12_lose_X12 hown hK hP 0 rfl rfl 1 (by decide) (hts (.fieldLink RX12 7 "OilPushModel" "sheetSize" "[I") (by decide +kernel)) (fun _ h => h) rfl dX12_lose_25 ?_
      refine lv_iload_n hx hb dX12_lose_28 rfl (lv_at hl 2 rfl) ?_
      refine lv_iconst (v := -1) hx hb dX12_lose_29 (by decide) ?_
      refine va_iast hx hb hK hP hD hS 1 0 rfl rfl (noSheet_in c1) dX12_lose_30 (fun H locs hP hD hS => ?_)
      have hP : va_P g.1 vwCl [(h0, .inr (12, mO q i L)), ((q 1), .inl (g.2 0, 4, .inl (upd a1 (k.toNatClampNeg) (-1))))] H := hP
      have hD : va_D A [(h0, .inr (12, mO q i L)), ((q 1), .inl (g.2 0, 4, .inl (upd a1 (k.toNatClampNeg) (-1))))] := hD
      refine lv_iload_n hx hb dX12_lose_31 rfl (lv_at hl 0 rfl) ?_
      have e90 : (o_g_lose_q1 a1 k) = (upd a1 (k.toNatClampNeg) (-1)) := by unfold o_g_lose_q1; rw [if_pos c1, if_pos c2]
      have hP : va_P g.1 vwCl [(h0, .inr (12, mO q i L)), ((q 1), .inl (g.2 0, 4, .inl (o_g_lose_q1 a1 k)))] H := by rw [e90]; exact hP
      have hD : va_D A [(h0, .inr (12, mO q i L)), ((q 1), .inl (g.2 0, 4, .inl (o_g_lose_q1 a1 k)))] := by rw [e90]; exact hD
      exact retI C hS () (by unfold r_g_lose; rw [if_pos c1, if_pos c2]) (hP.pick [0, 1] rfl) (hD.sub [0, 1] rfl rfl) (Nat.le_of_ble_eq_true rfl) (Nat.le_of_ble_eq_true rfl) dX12_lose_32
    refine lv_iconst (v := 0) hx hb dX12_lose_18 (by decide) ?_
    refine lv_goto (tgt := 23) hx hb dX12_lose_19 (by decide) ?_
    refine lv_istore_n (lv' := [(2, .int 0), (0, .ref h0), (1, .int k)]) hx hb dX12_lose_23 rfl hl (by decide) rfl (fun ls hl => ?_)
    refine lv_aload_n hx hb dX12_lose_24 rfl (lv_at hl 1 rfl) ?_
    refine va_get (D := g.1) (ci := 12) (v := .ref (q 1)) (C := RX12) (T := TX12) (N := 66) hx hb hts hg_X12_lose_X12 hown hK hP 0 rfl rfl 1 (by decide) (hts (.fieldLink RX12 7 "OilPushModel" "sheetSize" "[I") (by decide +kernel)) (fun _ h => h) rfl dX12_lose_25 ?_
    refine lv_iload_n hx hb dX12_lose_28 rfl (lv_at hl 2 rfl) ?_
    refine lv_iconst (v := -1) hx hb dX12_lose_29 (by decide) ?_
    refine va_iast hx hb hK hP hD hS 1 0 rfl rfl (noSheet_in c1) dX12_lose_30 (fun H locs hP hD hS => ?_)
    have hP : va_P g.1 vwCl [(h0, .inr (12, mO q i L)), ((q 1), .inl (g.2 0, 4, .inl (upd a1 (k.toNatClampNeg) (-1))))] H := hP
    have hD : va_D A [(h0, .inr (12, mO q i L)), ((q 1), .inl (g.2 0, 4, .inl (upd a1 (k.toNatClampNeg) (-1))))] := hD
    refine lv_iload_n hx hb dX12_lose_31 rfl (lv_at hl 0 rfl) ?_
    have e90 : (o_g_lose_q1 a1 k) = (upd a1 (k.toNatClampNeg) (-1)) := by unfold o_g_lose_q1; rw [if_pos c1, if_neg c2]
    have hP : va_P g.1 vwCl [(h0, .inr (12, mO q i L)), ((q 1), .inl (g.2 0, 4, .inl (o_g_lose_q1 a1 k)))] H := by rw [e90]; exact hP
    have hD : va_D A [(h0, .inr (12, mO q i L)), ((q 1), .inl (g.2 0, 4, .inl (o_g_lose_q1 a1 k)))] := by rw [e90]; exact hD
    exact retI C hS () (by unfold r_g_lose; rw [if_pos c1, if_neg c2]) (hP.pick [0, 1] rfl) (hD.sub [0, 1] rfl rfl) (Nat.le_of_ble_eq_true rfl) (Nat.le_of_ble_eq_true rfl) dX12_lose_32
  refine lv_iconst (v := -1) hx hb dX12_lose_7 (by decide) ?_
  have e90 : (o_g_lose_q1 a1 k) = a1 := by unfold o_g_lose_q1; rw [if_neg c1]
  have hP : va_P g.1 vwCl [(h0, .inr (12, mO q i L)), ((q 1), .inl (g.2 0, 4, .inl (o_g_lose_q1 a1 k)))] H := by rw [e90]; exact hP
  have hD : va_D A [(h0, .inr (12, mO q i L)), ((q 1), .inl (g.2 0, 4, .inl (o_g_lose_q1 a1 k)))] := by rw [e90]; exact hD
  exact retI C hS () (by unfold r_g_lose; rw [if_neg c1]) (hP.pick [0, 1] rfl) (hD.sub [0, 1] rfl rfl) (Nat.le_of_ble_eq_true rfl) (Nat.le_of_ble_eq_true rfl) dX12_lose_8
theorem noCyl_in {i : Nat → Int32} {cy : Int32} (h7 : 0 ≤ (i 7).toInt ∧ (i 7).toInt ≤ 6) (h : r_g_noCylinder i cy = 0) : vp_in cy 6 ∧ cy.toInt < (i 7).toInt := by
  unfold r_g_noCylinder at h
  by_cases h1 : r_c_in cy.toInt64 0 ((i 7).toInt64 - 1) = 0
  · rw [if_pos h1] at h; exact absurd h (by decide)
  · rw [in_eq] at h1
    have e : ((i 7).toInt64 - 1).toInt = (i 7).toInt - 1 := by
      rw [Int64.toInt_sub, Int32.toInt_toInt64, show (1 : Int64).toInt = 1 from by decide, Int.bmod_eq_of_le] <;> omega
    rw [e, Int32.toInt_toInt64, show (0 : Int64).toInt = 0 from by decide] at h1
    rw [vp_in_iff]
    by_cases h2 : 0 ≤ cy.toInt ∧ cy.toInt ≤ (i 7).toInt - 1
    · omega
    · rw [if_neg h2] at h1; exact absurd rfl h1
theorem hg_X12_valve_X12 : ∀ w ∈ wsX120, w ∈ wsX12_valve := fun w h => List.mem_cons_of_mem _ (List.mem_append_right _ h)
def r_g_valve (i : Nat → Int32) (a17 : Nat → Int32) (cy : Int32) (v : Int32) : Int32 := (if (r_g_noCylinder i cy) = 0 then (if (r_c_in (Int32.toInt64 v) 0 2) = 0 then (-2) else (a17 (cy.toNatClampNeg))) else (-1))
def o_g_valve_q17 (i : Nat → Int32) (a17 : Nat → Int32) (cy : Int32) (v : Int32) : Nat → Int32 := (if (r_g_noCylinder i cy) = 0 then (if (r_c_in (Int32.toInt64 v) 0 2) = 0 then a17 else (upd a17 (cy.toNatClampNeg) v)) else a17)
set_option maxRecDepth 100000 in
set_option maxHeartbeats 4000000 in
theorem g_valve (l : Launch) (g : Gt) (h0 : Nat) (q : Nat → Nat) (i : Nat → Int32) (L : Nat → Int64) (a17 : Nat → Int32) (cy : Int32) (v : Int32) (h7 : 0 ≤ (i 7).toInt ∧ (i 7).toInt ≤ 6) : Ctr l g yX12_valve wsX12_valve ({ frames := 2, cells := 0, slots := 0, locals := 46 } : Room) [.ref h0, .int cy, .int v] [(h0, .inr (12, mO q i L)), ((q 17), .inl (g.2 0, 6, .inl a17))] (fun A => QI g A (fun r (_ : Unit) => r = (r_g_valve i a17 cy v)) (fun _u : Unit => [(h0, .inr (12, mO q i L)), ((q 17), .inl (g.2 0, 6, .inl (o_g_valve_q17 i a17 cy v)))])) := by
  refine Ctr.of (cc := cX12_valve) (maxL := 4) (ret := (some .int)) (by decide) rfl (Nat.le_of_ble_eq_true rfl) ?_
  intro p e s m below meth c A ls H C hP hD hA hS hl
  obtain ⟨hx, hb, hr, hts, hown, hlocks, hml, hin, hKN⟩ := id C
  have hK := hKN.1
  have hN := hKN.2
  have F : CallFix p m c cX12_valve 4 s _ wsX12_valve yX12_valve.cls := ⟨hx, hb, hml, hown, hts⟩
  have hl : lv_has ls 4 [(0, .ref h0), (1, .int cy), (2, .int v)] := hl
  refine lv_aload_n hx hb dX12_valve_0 rfl (lv_at hl 0 rfl) ?_
  refine lv_iload_n hx hb dX12_valve_1 rfl (lv_at hl 1 rfl) ?_
  refine callIV (As := [.int cy]) (rest := []) (wr := [((q 17), .inl (g.2 0, 6, .inl a17))]) (Cn := RX12) C (g_noCylinder l g h0 q i L cy) 1 gX12_valve_X12_noCylinder rfl (by decide +kernel) ⟨(Nat.le_of_ble_eq_true rfl), (Nat.le_of_ble_eq_true rfl)⟩ [0] [1] hP hD hA hS rfl rfl rfl rfl (by decide) (k := 0) (ci := 12) rfl rfl rfl rfl hl.1 rfl (Nat.le_of_ble_eq_true rfl) dX12_valve_2 ⟨(Nat.le_of_ble_eq_true rfl), (Nat.le_of_ble_eq_true rfl)⟩ (fun r _u H locs hw hP hD hS => ?_)
  have hP : va_P g.1 vwCl [((q 17), .inl (g.2 0, 6, .inl a17)), (h0, .inr (12, mO q i L))] H := hP
  have hD : va_D A [((q 17), .inl (g.2 0, 6, .inl a17)), (h0, .inr (12, mO q i L))] := hD
  subst hw
  refine lv_if_eq (tgt := 10) hx hb dX12_valve_5 (by decide) (fun c1 => ?_) (fun c1 => ?_)
  · refine lv_iload_n hx hb dX12_valve_10 rfl (lv_at hl 2 rfl) ?_
    refine lv_i2l hx hb dX12_valve_11 rfl ?_
    refine lv_lconst (v := 0) hx hb dX12_valve_12 (by decide) ?_
    refine lv_ldc2 (v := 2) hx hb hown (hts (.constantLong RX12 162 (2)) (by decide +kernel)) dX12_valve_13 ?_
    refine pureIS (As := [.long (Int32.toInt64 v), .long 0, .long 2]) (rest := []) F (c_in l (Int32.toInt64 v) 0 2) 3 gX12_valve_X12_in rfl (by decide +kernel) rfl rfl ⟨(Nat.le_of_ble_eq_true rfl), (Nat.le_of_ble_eq_true rfl)⟩ (Nat.le_of_ble_eq_true rfl) (Nat.le_of_ble_eq_true rfl) rfl hl.1 rfl (Nat.le_of_ble_eq_true rfl) dX12_valve_16 ?_
    refine lv_if_ne (tgt := 25) hx hb dX12_valve_19 (by decide) (fun c2 => ?_) (fun c2 => ?_)
    · refine lv_aload_n hx hb dX12_valve_25 rfl (lv_at hl 0 rfl) ?_
      refine va_get (D := g.1) (ci := 12) (v := .ref (q 17)) (C := RX12) (T := TX12) (N := 66) hx hb hts hg_X12_valve_X12 hown hK hP 1 rfl rfl 17 (by decide) (hts (.fieldLink RX12 49 "OilPushModel" "valves" "[I") (by decide +kernel)) (fun _ h => h) rfl dX12_valve_26 ?_
      refine lv_iload_n hx hb dX12_valve_29 rfl (lv_at hl 1 rfl) ?_
      refine va_iald hx hb hK hP 0 0 rfl rfl (noCyl_in h7 c1).1 dX12_valve_30 ?_
      refine lv_istore_n (lv' := [(3, .int (a17 (cy.toNatClampNeg))), (0, .ref h0), (1, .int cy), (2, .int v)]) hx hb dX12_valve_31 rfl hl (by decide) rfl (fun ls hl => ?_)
      refine lv_aload_n hx hb dX12_valve_32 rfl (lv_at hl 1 rfl) ?_
      refine va_get (D := g.1) (ci := 12) (v := .ref (q 17)) (C := RX12) (T := TX12) (N := 66) hx hb hts hg_X12_valve_X12 hown hK hP 1 rfl rfl 17 (by decide) (hts (.fieldLink RX12 49 "OilPushModel" "valves" "[I") (by decide +kernel)) (fun _ h => h) rfl dX12_valve_33 ?_
      refine lv_iload_n hx hb dX12_valve_36 rfl (lv_at hl 2 rfl) ?_
      refine lv_iload_n hx hb dX12_valve_37 rfl (lv_at hl 3 rfl) ?_
      refine va_iast hx hb hK hP hD hS 0 0 rfl rfl (noCyl_in h7 c1).1 dX12_valve_38 (fun H locs hP hD hS => ?_)
      have hP : va_P g.1 vwCl [((q 17), .inl (g.2 0, 6, .inl (upd a17 (cy.toNatClampNeg) v))), (h0, .inr (12, mO q i L))] H := hP
      have hD : va_D A [((q 17), .inl (g.2 0, 6, .inl (upd a17 (cy.toNatClampNeg) v))), (h0, .inr (12, mO q i L))] := hD
      refine lv_iload_n hx hb dX12_valve_39 rfl (lv_at hl 0 rfl) ?_
      have e90 : (o_g_valve_q17 i a17 cy v) = (upd a17 (cy.toNatClampNeg) v) := by unfold o_g_valve_q17; rw [if_pos c1, if_neg c2]
      have hP : va_P g.1 vwCl [((q 17), .inl (g.2 0, 6, .inl (o_g_valve_q17 i a17 cy v))), (h0, .inr (12, mO q i L))] H := by rw [e90]; exact hP
      have hD : va_D A [((q 17), .inl (g.2 0, 6, .inl (o_g_valve_q17 i a17 cy v))), (h0, .inr (12, mO q i L))] := by rw [e90]; exact hD
      exact retI C hS () (by unfold r_g_valve; rw [if_pos c1, if_neg c2]) (hP.pick [1, 0] rfl) (hD.sub [1, 0] rfl rfl) (Nat.le_of_ble_eq_true rfl) (Nat.le_of_ble_eq_true rfl) dX12_valve_40
    refine lv_bipush (v := -2) hx hb dX12_valve_22 (by decide) ?_
    have e90 : (o_g_valve_q17 i a17 cy v) = a17 := by unfold o_g_valve_q17; rw [if_pos c1, if_pos c2]
    have hP : va_P g.1 vwCl [((q 17), .inl (g.2 0, 6, .inl (o_g_valve_q17 i a17 cy v))), (h0, .inr (12, mO q i L))] H := by rw [e90]; exact hP
    have hD : va_D A [((q 17), .inl (g.2 0, 6, .inl (o_g_valve_q17 i a17 cy v))), (h0, .inr (12, mO q i L))] := by rw [e90]; exact hD
    exact retI C hS () (by unfold r_g_valve; rw [if_pos c1, if_pos c2]) (hP.pick [1, 0] rfl) (hD.sub [1, 0] rfl rfl) (Nat.le_of_ble_eq_true rfl) (Nat.le_of_ble_eq_true rfl) dX12_valve_24
  refine lv_iconst (v := -1) hx hb dX12_valve_8 (by decide) ?_
  have e90 : (o_g_valve_q17 i a17 cy v) = a17 := by unfold o_g_valve_q17; rw [if_neg c1]
  have hP : va_P g.1 vwCl [((q 17), .inl (g.2 0, 6, .inl (o_g_valve_q17 i a17 cy v))), (h0, .inr (12, mO q i L))] H := by rw [e90]; exact hP
  have hD : va_D A [((q 17), .inl (g.2 0, 6, .inl (o_g_valve_q17 i a17 cy v))), (h0, .inr (12, mO q i L))] := by rw [e90]; exact hD
  exact retI C hS () (by unfold r_g_valve; rw [if_neg c1]) (hP.pick [1, 0] rfl) (hD.sub [1, 0] rfl rfl) (Nat.le_of_ble_eq_true rfl) (Nat.le_of_ble_eq_true rfl) dX12_valve_9
theorem hg_X12_fill_X12 : ∀ w ∈ wsX120, w ∈ wsX12_fill := fun w h => List.mem_cons_of_mem _ (List.mem_append_right _ h)
def r_g_fill (i : Nat → Int32) (a11 : Nat → Int32) (a9 : Nat → Int32) (a10 : Nat → Int32) (cy : Int32) (v : Int32) : Int32 := (if (r_g_noCylinder i cy) = 0 then (if (r_c_in (Int32.toInt64 v) 0 (Int32.toInt64 ((a9 (cy.toNatClampNeg)) * (a10 (cy.toNatClampNeg))))) = 0 then (-2) else (a11 (cy.toNatClampNeg))) else (-1))
def o_g_fill_q11 (i : Nat → Int32) (a11 : Nat → Int32) (a9 : Nat → Int32) (a10 : Nat → Int32) (cy : Int32) (v : Int32) : Nat → Int32 := (if (r_g_noCylinder i cy) = 0 then (if (r_c_in (Int32.toInt64 v) 0 (Int32.toInt64 ((a9 (cy.toNatClampNeg)) * (a10 (cy.toNatClampNeg))))) = 0 then a11 else (upd a11 (cy.toNatClampNeg) v)) else a11)
set_option maxRecDepth 100000 in
set_option maxHeartbeats 4000000 in
theorem g_fill (l : Launch) (g : Gt) (h0 : Nat) (q : Nat → Nat) (i : Nat → Int32) (L : Nat → Int64) (a11 : Nat → Int32) (a9 : Nat → Int32) (a10 : Nat → Int32) (cy : Int32) (v : Int32) (h7 : 0 ≤ (i 7).toInt ∧ (i 7).toInt ≤ 6) : Ctr l g yX12_fill wsX12_fill ({ frames := 2, cells := 0, slots := 0, locals := 46 } : Room) [.ref h0, .int cy, .int v] [(h0, .inr (12, mO q i L)), ((q 11), .inl (g.2 0, 6, .inl a11)), ((q 9), .inl (g.2 0, 6, .inl a9)), ((q 10), .inl (g.2 0, 6, .inl a10))] (fun A => QI g A (fun r (_ : Unit) => r = (r_g_fill i a11 a9 a10 cy v)) (fun _u : Unit => [(h0, .inr (12, mO q i L)), ((q 11), .inl (g.2 0, 6, .inl (o_g_fill_q11 i a11 a9 a10 cy v))), ((q 9), .inl (g.2 0, 6, .inl a9)), ((q 10), .inl (g.2 0, 6, .inl a10))])) := by
  refine Ctr.of (cc := cX12_fill) (maxL := 4) (ret := (some .int)) (by decide) rfl (Nat.le_of_ble_eq_true rfl) ?_
  intro p e s m below meth c A ls H C hP hD hA hS hl
  obtain ⟨hx, hb, hr, hts, hown, hlocks, hml, hin, hKN⟩ := id C
  have hK := hKN.1
  have hN := hKN.2
  have F : CallFix p m c cX12_fill 4 s _ wsX12_fill yX12_fill.cls := ⟨hx, hb, hml, hown, hts⟩
  have hl : lv_has ls 4 [(0, .ref h0), (1, .int cy), (2, .int v)] := hl
  refine lv_aload_n hx hb dX12_fill_0 rfl (lv_at hl 0 rfl) ?_
  refine lv_iload_n hx hb dX12_fill_1 rfl (lv_at hl 1 rfl) ?_
  refine callIV (As := [.int cy]) (rest := []) (wr := [((q 11), .inl (g.2 0, 6, .inl a11)), ((q 9), .inl (g.2 0, 6, .inl a9)), ((q 10), .inl (g.2 0, 6, .inl a10))]) (Cn := RX12) C (g_noCylinder l g h0 q i L cy) 1 gX12_fill_X12_noCylinder rfl (by decide +kernel) ⟨(Nat.le_of_ble_eq_true rfl), (Nat.le_of_ble_eq_true rfl)⟩ [0] [1, 2, 3] hP hD hA hS rfl rfl rfl rfl (by decide) (k := 0) (ci := 12) rfl rfl rfl rfl hl.1 rfl (Nat.le_of_ble_eq_true rfl) dX12_fill_2 ⟨(Nat.le_of_ble_eq_true rfl), (Nat.le_of_ble_eq_true rfl)⟩ (fun r _u H locs hw hP hD hS => ?_)
  have hP : va_P g.1 vwCl [((q 11), .inl (g.2 0, 6, .inl a11)), ((q 9), .inl (g.2 0, 6, .inl a9)), ((q 10), .inl (g.2 0, 6, .inl a10)), (h0, .inr (12, mO q i L))] H := hP
  have hD : va_D A [((q 11), .inl (g.2 0, 6, .inl a11)), ((q 9), .inl (g.2 0, 6, .inl a9)), ((q 10), .inl (g.2 0, 6, .inl a10)), (h0, .inr (12, mO q i L))] := hD
  subst hw
  refine lv_if_eq (tgt := 10) hx hb dX12_fill_5 (by decide) (fun c1 => ?_) (fun c1 => ?_)
  · refine lv_iload_n hx hb dX12_fill_10 rfl (lv_at hl 2 rfl) ?_
    refine lv_i2l hx hb dX12_fill_11 rfl ?_
    refine lv_lconst (v := 0) hx hb dX12_fill_12 (by decide) ?_
    refine lv_aload_n hx hb dX12_fill_13 rfl (lv_at hl 0 rfl) ?_
    refine lv_iload_n hx hb dX12_fill_14 rfl (lv_at hl 1 rfl) ?_
    refine callIV (As := [.int cy]) (rest := [.long 0, .long (Int32.toInt64 v)]) (wr := [((q 11), .inl (g.2 0, 6, .inl a11))]) (Cn := RX12) C (g_room l g h0 q i L a9 a10 cy (noCyl_in h7 c1).1) 1 gX12_fill_X12_room rfl (by decide +kernel) ⟨(Nat.le_of_ble_eq_true rfl), (Nat.le_of_ble_eq_true rfl)⟩ [3, 1, 2] [0] hP hD hA hS rfl rfl rfl rfl (by decide) (k := 3) (ci := 12) rfl rfl rfl rfl hl.1 rfl (Nat.le_of_ble_eq_true rfl) dX12_fill_15 ⟨(Nat.le_of_ble_eq_true rfl), (Nat.le_of_ble_eq_true rfl)⟩ (fun r _u H locs hw hP hD hS => ?_)
    have hP : va_P g.1 vwCl [((q 11), .inl (g.2 0, 6, .inl a11)), (h0, .inr (12, mO q i L)), ((q 9), .inl (g.2 0, 6, .inl a9)), ((q 10), .inl (g.2 0, 6, .inl a10))] H := hP
    have hD : va_D A [((q 11), .inl (g.2 0, 6, .inl a11)), (h0, .inr (12, mO q i L)), ((q 9), .inl (g.2 0, 6, .inl a9)), ((q 10), .inl (g.2 0, 6, .inl a10))] := hD
    subst hw
    refine lv_i2l hx hb dX12_fill_18 rfl ?_
    refine pureIS (As := [.long (Int32.toInt64 v), .long 0, .long (Int32.toInt64 ((a9 (cy.toNatClampNeg)) * (a10 (cy.toNatClampNeg))))]) (rest := []) F (c_in l (Int32.toInt64 v) 0 (Int32.toInt64 ((a9 (cy.toNatClampNeg)) * (a10 (cy.toNatClampNeg))))) 3 gX12_fill_X12_in rfl (by decide +kernel) rfl rfl ⟨(Nat.le_of_ble_eq_true rfl), (Nat.le_of_ble_eq_true rfl)⟩ (Nat.le_of_ble_eq_true rfl) (Nat.le_of_ble_eq_true rfl) rfl hl.1 rfl (Nat.le_of_ble_eq_true rfl) dX12_fill_19 ?_
    refine lv_if_ne (tgt := 28) hx hb dX12_fill_22 (by decide) (fun c2 => ?_) (fun c2 => ?_)
    · refine lv_aload_n hx hb dX12_fill_28 rfl (lv_at hl 0 rfl) ?_
      refine va_get (D := g.1) (ci := 12) (v := .ref (q 11)) (C := RX12) (T := TX12) (N := 66) hx hb hts hg_X12_fill_X12 hown hK hP 1 rfl rfl 11 (by decide) (hts (.fieldLink RX12 31 "OilPushModel" "oil" "[I") (by decide +kernel)) (fun _ h => h) rfl dX12_fill_29 ?_
      refine lv_iload_n hx hb dX12_fill_32 rfl (lv_at hl 1 rfl) ?_
      refine va_iald hx hb hK hP 0 0 rfl rfl (noCyl_in h7 c1).1 dX12_fill_33 ?_
      refine lv_istore_n (lv' := [(3, .int (a11 (cy.toNatClampNeg))), (0, .ref h0), (1, .int cy), (2, .int v)]) hx hb dX12_fill_34 rfl hl (by decide) rfl (fun ls hl => ?_)
      refine lv_aload_n hx hb dX12_fill_35 rfl (lv_at hl 1 rfl) ?_
      refine va_get (D := g.1) (ci := 12) (v := .ref (q 11)) (C := RX12) (T := TX12) (N := 66) hx hb hts hg_X12_fill_X12 hown hK hP 1 rfl rfl 11 (by decide) (hts (.fieldLink RX12 31 "OilPushModel" "oil" "[I") (by decide +kernel)) (fun _ h => h) rfl dX12_fill_36 ?_
      refine lv_iload_n hx hb dX12_fill_39 rfl (lv_at hl 2 rfl) ?_
      refine lv_iload_n hx hb dX12_fill_40 rfl (lv_at hl 3 rfl) ?_
      refine va_iast hx hb hK hP hD hS 0 0 rfl rfl (noCyl_in h7 c1).1 dX12_fill_41 (fun H locs hP hD hS => ?_)
      have hP : va_P g.1 vwCl [((q 11), .inl (g.2 0, 6, .inl (upd a11 (cy.toNatClampNeg) v))), (h0, .inr (12, mO q i L)), ((q 9), .inl (g.2 0, 6, .inl a9)), ((q 10), .inl (g.2 0, 6, .inl a10))] H := hP
      have hD : va_D A [((q 11), .inl (g.2 0, 6, .inl (upd a11 (cy.toNatClampNeg) v))), (h0, .inr (12, mO q i L)), ((q 9), .inl (g.2 0, 6, .inl a9)), ((q 10), .inl (g.2 0, 6, .inl a10))] := hD
      refine lv_iload_n hx hb dX12_fill_42 rfl (lv_at hl 0 rfl) ?_
      have e90 : (o_g_fill_q11 i a11 a9 a10 cy v) = (upd a11 (cy.toNatClampNeg) v) := by unfold o_g_fill_q11; rw [if_pos c1, if_neg c2]
      have hP : va_P g.1 vwCl [((q 11), .inl (g.2 0, 6, .inl (o_g_fill_q11 i a11 a9 a10 cy v))), (h0, .inr (12, mO q i L)), ((q 9), .inl (g.2 0, 6, .inl a9)), ((q 10), .inl (g.2 0, 6, .inl a10))] H := by rw [e90]; exact hP
      have hD : va_D A [((q 11), .inl (g.2 0, 6, .inl (o_g_fill_q11 i a11 a9 a10 cy v))), (h0, .inr (12, mO q i L)), ((q 9), .inl (g.2 0, 6, .inl a9)), ((q 10), .inl (g.2 0, 6, .inl a10))] := by rw [e90]; exact hD
      exact retI C hS () (by unfold r_g_fill; rw [if_pos c1, if_neg c2]) (hP.pick [1, 0, 2, 3] rfl) (hD.sub [1, 0, 2, 3] rfl rfl) (Nat.le_of_ble_eq_true rfl) (Nat.le_of_ble_eq_true rfl) dX12_fill_43
    refine lv_bipush (v := -2) hx hb dX12_fill_25 (by decide) ?_
    have e90 : (o_g_fill_q11 i a11 a9 a10 cy v) = a11 := by unfold o_g_fill_q11; rw [if_pos c1, if_pos c2]
    have hP : va_P g.1 vwCl [((q 11), .inl (g.2 0, 6, .inl (o_g_fill_q11 i a11 a9 a10 cy v))), (h0, .inr (12, mO q i L)), ((q 9), .inl (g.2 0, 6, .inl a9)), ((q 10), .inl (g.2 0, 6, .inl a10))] H := by rw [e90]; exact hP
    have hD : va_D A [((q 11), .inl (g.2 0, 6, .inl (o_g_fill_q11 i a11 a9 a10 cy v))), (h0, .inr (12, mO q i L)), ((q 9), .inl (g.2 0, 6, .inl a9)), ((q 10), .inl (g.2 0, 6, .inl a10))] := by rw [e90]; exact hD
    exact retI C hS () (by unfold r_g_fill; rw [if_pos c1, if_pos c2]) (hP.pick [1, 0, 2, 3] rfl) (hD.sub [1, 0, 2, 3] rfl rfl) (Nat.le_of_ble_eq_true rfl) (Nat.le_of_ble_eq_true rfl) dX12_fill_27
  refine lv_iconst (v := -1) hx hb dX12_fill_8 (by decide) ?_
  have e90 : (o_g_fill_q11 i a11 a9 a10 cy v) = a11 := by unfold o_g_fill_q11; rw [if_neg c1]
  have hP : va_P g.1 vwCl [((q 11), .inl (g.2 0, 6, .inl (o_g_fill_q11 i a11 a9 a10 cy v))), ((q 9), .inl (g.2 0, 6, .inl a9)), ((q 10), .inl (g.2 0, 6, .inl a10)), (h0, .inr (12, mO q i L))] H := by rw [e90]; exact hP
  have hD : va_D A [((q 11), .inl (g.2 0, 6, .inl (o_g_fill_q11 i a11 a9 a10 cy v))), ((q 9), .inl (g.2 0, 6, .inl a9)), ((q 10), .inl (g.2 0, 6, .inl a10)), (h0, .inr (12, mO q i L))] := by rw [e90]; exact hD
  exact retI C hS () (by unfold r_g_fill; rw [if_neg c1]) (hP.pick [3, 0, 1, 2] rfl) (hD.sub [3, 0, 1, 2] rfl rfl) (Nat.le_of_ble_eq_true rfl) (Nat.le_of_ble_eq_true rfl) dX12_fill_9
theorem hg_X12_tell_X12 : ∀ w ∈ wsX120, w ∈ wsX12_tell := fun w h => List.mem_cons_of_mem _ (List.mem_append_right _ h)
def r_g_tell (i : Nat → Int32) (a8 : Nat → Int32) (a11 : Nat → Int32) (cy : Int32) : Int32 := (if (r_g_noCylinder i cy) = 0 then (if (a8 (cy.toNatClampNeg)) ≤ 0 then (if (a8 (cy.toNatClampNeg)) = 0 then (a11 (cy.toNatClampNeg)) else (if (a8 (cy.toNatClampNeg)) = 1 then ((a11 (cy.toNatClampNeg)) + 1000000) else (2 * (a11 (cy.toNatClampNeg))))) else (if (a8 (cy.toNatClampNeg)) = 0 then (a11 (cy.toNatClampNeg)) else (if (a8 (cy.toNatClampNeg)) = 1 then ((a11 (cy.toNatClampNeg)) + 1000000) else (2 * (a11 (cy.toNatClampNeg)))))) else (-1))
def o_g_tell_65 (i : Nat → Int32) (a8 : Nat → Int32) (cy : Int32) : Int32 := (if (r_g_noCylinder i cy) = 0 then (if (a8 (cy.toNatClampNeg)) ≤ 0 then (if (a8 (cy.toNatClampNeg)) = 0 then ((31 * (i 65)) + 1) else (if (a8 (cy.toNatClampNeg)) = 1 then ((31 * (i 65)) + 1) else ((31 * (i 65)) + 1))) else (if (a8 (cy.toNatClampNeg)) = 0 then ((31 * ((31 * (i 65)) + ((a8 (cy.toNatClampNeg)) + 1))) + 1) else (if (a8 (cy.toNatClampNeg)) = 1 then ((31 * ((31 * (i 65)) + ((a8 (cy.toNatClampNeg)) + 1))) + 1) else ((31 * ((31 * (i 65)) + ((a8 (cy.toNatClampNeg)) + 1))) + 1)))) else (i 65))
set_option maxRecDepth 100000 in
set_option maxHeartbeats 4000000 in
theorem g_tell (l : Launch) (g : Gt) (h0 : Nat) (q : Nat → Nat) (i : Nat → Int32) (L : Nat → Int64) (a8 : Nat → Int32) (a11 : Nat → Int32) (cy : Int32) (h7 : 0 ≤ (i 7).toInt ∧ (i 7).toInt ≤ 6) : Ctr l g yX12_tell wsX12_tell ({ frames := 2, cells := 0, slots := 0, locals := 46 } : Room) [.ref h0, .int cy] [(h0, .inr (12, mO q i L)), ((q 8), .inl (g.2 0, 6, .inl a8)), ((q 11), .inl (g.2 0, 6, .inl a11))] (fun A => QI g A (fun r (_ : Unit) => r = (r_g_tell i a8 a11 cy)) (fun _u : Unit => [(h0, .inr (12, mO q (upd i 65 (o_g_tell_65 i a8 cy)) L)), ((q 8), .inl (g.2 0, 6, .inl a8)), ((q 11), .inl (g.2 0, 6, .inl a11))])) := by
  refine Ctr.of (cc := cX12_tell) (maxL := 2) (ret := (some .int)) (by decide) rfl (Nat.le_of_ble_eq_true rfl) ?_
  intro p e s m below meth c A ls H C hP hD hA hS hl
  obtain ⟨hx, hb, hr, hts, hown, hlocks, hml, hin, hKN⟩ := id C
  have hK := hKN.1
  have hN := hKN.2
  have F : CallFix p m c cX12_tell 2 s _ wsX12_tell yX12_tell.cls := ⟨hx, hb, hml, hown, hts⟩
  have hl : lv_has ls 2 [(0, .ref h0), (1, .int cy)] := hl
  refine lv_aload_n hx hb dX12_tell_0 rfl (lv_at hl 0 rfl) ?_
  refine lv_iload_n hx hb dX12_tell_1 rfl (lv_at hl 1 rfl) ?_
  refine callIV (As := [.int cy]) (rest := []) (wr := [((q 8), .inl (g.2 0, 6, .inl a8)), ((q 11), .inl (g.2 0, 6, .inl a11))]) (Cn := RX12) C (g_noCylinder l g h0 q i L cy) 1 gX12_tell_X12_noCylinder rfl (by decide +kernel) ⟨(Nat.le_of_ble_eq_true rfl), (Nat.le_of_ble_eq_true rfl)⟩ [0] [1, 2] hP hD hA hS rfl rfl rfl rfl (by decide) (k := 0) (ci := 12) rfl rfl rfl rfl hl.1 rfl (Nat.le_of_ble_eq_true rfl) dX12_tell_2 ⟨(Nat.le_of_ble_eq_true rfl), (Nat.le_of_ble_eq_true rfl)⟩ (fun r _u H locs hw hP hD hS => ?_)
  have hP : va_P g.1 vwCl [((q 8), .inl (g.2 0, 6, .inl a8)), ((q 11), .inl (g.2 0, 6, .inl a11)), (h0, .inr (12, mO q i L))] H := hP
  have hD : va_D A [((q 8), .inl (g.2 0, 6, .inl a8)), ((q 11), .inl (g.2 0, 6, .inl a11)), (h0, .inr (12, mO q i L))] := hD
  subst hw
  refine lv_if_eq (tgt := 10) hx hb dX12_tell_5 (by decide) (fun c1 => ?_) (fun c1 => ?_)
  · refine lv_aload_n hx hb dX12_tell_10 rfl (lv_at hl 0 rfl) ?_
    refine va_get (D := g.1) (ci := 12) (v := .ref (q 8)) (C := RX12) (T := TX12) (N := 66) hx hb hts hg_X12_tell_X12 hown hK hP 2 rfl rfl 8 (by decide) (hts (.fieldLink RX12 22 "OilPushModel" "kind" "[I") (by decide +kernel)) (fun _ h => h) rfl dX12_tell_11 ?_
    refine lv_iload_n hx hb dX12_tell_14 rfl (lv_at hl 1 rfl) ?_
    refine va_iald hx hb hK hP 0 0 rfl rfl (noCyl_in h7 c1).1 dX12_tell_15 ?_
    refine lv_if_le (tgt := 31) hx hb dX12_tell_16 (by decide) (fun c2 => ?_) (fun c2 => ?_)
    · refine lv_aload_n hx hb dX12_tell_31 rfl (lv_at hl 0 rfl) ?_
      refine lv_iconst (v := 1) hx hb dX12_tell_32 (by decide) ?_
      refine callVV (As := [.int 1]) (rest := []) (wr := [((q 8), .inl (g.2 0, 6, .inl a8)), ((q 11), .inl (g.2 0, 6, .inl a11))]) (Cn := RX12) C (g_traced l g h0 q i L 1) 1 gX12_tell_X12_traced rfl (by decide +kernel) ⟨(Nat.le_of_ble_eq_true rfl), (Nat.le_of_ble_eq_true rfl)⟩ [2] [0, 1] hP hD hA hS rfl rfl rfl rfl (by decide) (k := 2) (ci := 12) rfl rfl rfl rfl hl.1 rfl (Nat.le_of_ble_eq_true rfl) dX12_tell_33 ⟨(Nat.le_of_ble_eq_true rfl), (Nat.le_of_ble_eq_true rfl)⟩ (fun _u H locs hw hP hD hS => ?_)
      have hP : va_P g.1 vwCl [((q 8), .inl (g.2 0, 6, .inl a8)), ((q 11), .inl (g.2 0, 6, .inl a11)), (h0, .inr (12, mO q (upd i 65 ((31 * (i 65)) + 1)) L))] H := hP
      have hD : va_D A [((q 8), .inl (g.2 0, 6, .inl a8)), ((q 11), .inl (g.2 0, 6, .inl a11)), (h0, .inr (12, mO q (upd i 65 ((31 * (i 65)) + 1)) L))] := hD
      refine lv_aload_n hx hb dX12_tell_36 rfl (lv_at hl 0 rfl) ?_
      refine va_get (D := g.1) (ci := 12) (v := .ref (q 8)) (C := RX12) (T := TX12) (N := 66) hx hb hts hg_X12_tell_X12 hown hK hP 2 rfl rfl 8 (by decide) (hts (.fieldLink RX12 22 "OilPushModel" "kind" "[I") (by decide +kernel)) (fun _ h => h) rfl dX12_tell_37 ?_
      refine lv_iload_n hx hb dX12_tell_40 rfl (lv_at hl 1 rfl) ?_
      refine va_iald hx hb hK hP 0 0 rfl rfl (noCyl_in h7 c1).1 dX12_tell_41 ?_
      refine lv_if_ne (tgt := 54) hx hb dX12_tell_42 (by decide) (fun c3 => ?_) (fun c3 => ?_)
      · refine lv_aload_n hx hb dX12_tell_54 rfl (lv_at hl 0 rfl) ?_
        refine va_get (D := g.1) (ci := 12) (v := .ref (q 8)) (C := RX12) (T := TX12) (N := 66) hx hb hts hg_X12_tell_X12 hown hK hP 2 rfl rfl 8 (by decide) (hts (.fieldLink RX12 22 "OilPushModel" "kind" "[I") (by decide +kernel)) (fun _ h => h) rfl dX12_tell_55 ?_
        refine lv_iload_n hx hb dX12_tell_58 rfl (lv_at hl 1 rfl) ?_
        refine va_iald hx hb hK hP 0 0 rfl rfl (noCyl_in h7 c1).1 dX12_tell_59 ?_
        refine lv_iconst (v := 1) hx hb dX12_tell_60 (by decide) ?_
        refine lv_icmp_ne (tgt := 77) hx hb dX12_tell_61 (by decide) (fun c4 => ?_) (fun c4 => ?_)
        · refine lv_iconst (v := 2) hx hb dX12_tell_77 (by decide) ?_
          refine lv_aload_n hx hb dX12_tell_78 rfl (lv_at hl 0 rfl) ?_
          refine va_get (D := g.1) (ci := 12) (v := .ref (q 11)) (C := RX12) (T := TX12) (N := 66) hx hb hts hg_X12_tell_X12 hown hK hP 2 rfl rfl 11 (by decide) (hts (.fieldLink RX12 31 "OilPushModel" "oil" "[I") (by decide +kernel)) (fun _ h => h) rfl dX12_tell_79 ?_
          refine lv_iload_n hx hb dX12_tell_82 rfl (lv_at hl 1 rfl) ?_
          refine va_iald hx hb hK hP 1 0 rfl rfl (noCyl_in h7 c1).1 dX12_tell_83 ?_
          refine lv_imul hx hb dX12_tell_84 ?_
          have e90 : (o_g_tell_65 i a8 cy) = ((31 * (i 65)) + 1) := by unfold o_g_tell_65; rw [if_pos c1, if_pos c2, if_neg c3, if_neg c4]
          have hP : va_P g.1 vwCl [((q 8), .inl (g.2 0, 6, .inl a8)), ((q 11), .inl (g.2 0, 6, .inl a11)), (h0, .inr (12, mO q (upd i 65 (o_g_tell_65 i a8 cy)) L))] H := by rw [e90]; exact hP
          have hD : va_D A [((q 8), .inl (g.2 0, 6, .inl a8)), ((q 11), .inl (g.2 0, 6, .inl a11)), (h0, .inr (12, mO q (upd i 65 (o_g_tell_65 i a8 cy)) L))] := by rw [e90]; exact hD
          exact retI C hS () (by unfold r_g_tell; rw [if_pos c1, if_pos c2, if_neg c3, if_neg c4]) (hP.pick [2, 0, 1] rfl) (hD.sub [2, 0, 1] rfl rfl) (Nat.le_of_ble_eq_true rfl) (Nat.le_of_ble_eq_true rfl) dX12_tell_85
        refine lv_aload_n hx hb dX12_tell_64 rfl (lv_at hl 0 rfl) ?_
        refine va_get (D := g.1) (ci := 12) (v := .ref (q 11)) (C := RX12) (T := TX12) (N := 66) hx hb hts hg_X12_tell_X12 hown hK hP 2 rfl rfl 11 (by decide) (hts (.fieldLink RX12 31 "OilPushModel" "oil" "[I") (by decide +kernel)) (fun _ h => h) rfl dX12_tell_65 ?_
        refine lv_iload_n hx hb dX12_tell_68 rfl (lv_at hl 1 rfl) ?_
        refine va_iald hx hb hK hP 1 0 rfl rfl (noCyl_in h7 c1).1 dX12_tell_69 ?_
        refine lv_ldcw (v := 1000000) hx hb hown (hts (.constant RX12 320 (1000000)) (by decide +kernel)) dX12_tell_70 ?_
        refine lv_iadd hx hb dX12_tell_73 ?_
        refine lv_goto (tgt := 85) hx hb dX12_tell_74 (by decide) ?_
        have e90 : (o_g_tell_65 i a8 cy) = ((31 * (i 65)) + 1) := by unfold o_g_tell_65; rw [if_pos c1, if_pos c2, if_neg c3, if_pos c4]
        have hP : va_P g.1 vwCl [((q 8), .inl (g.2 0, 6, .inl a8)), ((q 11), .inl (g.2 0, 6, .inl a11)), (h0, .inr (12, mO q (upd i 65 (o_g_tell_65 i a8 cy)) L))] H := by rw [e90]; exact hP
        have hD : va_D A [((q 8), .inl (g.2 0, 6, .inl a8)), ((q 11), .inl (g.2 0, 6, .inl a11)), (h0, .inr (12, mO q (upd i 65 (o_g_tell_65 i a8 cy)) L))] := by rw [e90]; exact hD
        exact retI C hS () (by unfold r_g_tell; rw [if_pos c1, if_pos c2, if_neg c3, if_pos c4]) (hP.pick [2, 0, 1] rfl) (hD.sub [2, 0, 1] rfl rfl) (Nat.le_of_ble_eq_true rfl) (Nat.le_of_ble_eq_true rfl) dX12_tell_85
      refine lv_aload_n hx hb dX12_tell_45 rfl (lv_at hl 0 rfl) ?_
      refine va_get (D := g.1) (ci := 12) (v := .ref (q 11)) (C := RX12) (T := TX12) (N := 66) hx hb hts hg_X12_tell_X12 hown hK hP 2 rfl rfl 11 (by decide) (hts (.fieldLink RX12 31 "OilPushModel" "oil" "[I") (by decide +kernel)) (fun _ h => h) rfl dX12_tell_46 ?_
      refine lv_iload_n hx hb dX12_tell_49 rfl (lv_at hl 1 rfl) ?_
      refine va_iald hx hb hK hP 1 0 rfl rfl (noCyl_in h7 c1).1 dX12_tell_50 ?_
      refine lv_goto (tgt := 85) hx hb dX12_tell_51 (by decide) ?_
      have e90 : (o_g_tell_65 i a8 cy) = ((31 * (i 65)) + 1) := by unfold o_g_tell_65; rw [if_pos c1, if_pos c2, if_pos c3]
      have hP : va_P g.1 vwCl [((q 8), .inl (g.2 0, 6, .inl a8)), ((q 11), .inl (g.2 0, 6, .inl a11)), (h0, .inr (12, mO q (upd i 65 (o_g_tell_65 i a8 cy)) L))] H := by rw [e90]; exact hP
      have hD : va_D A [((q 8), .inl (g.2 0, 6, .inl a8)), ((q 11), .inl (g.2 0, 6, .inl a11)), (h0, .inr (12, mO q (upd i 65 (o_g_tell_65 i a8 cy)) L))] := by rw [e90]; exact hD
      exact retI C hS () (by unfold r_g_tell; rw [if_pos c1, if_pos c2, if_pos c3]) (hP.pick [2, 0, 1] rfl) (hD.sub [2, 0, 1] rfl rfl) (Nat.le_of_ble_eq_true rfl) (Nat.le_of_ble_eq_true rfl) dX12_tell_85
    refine lv_aload_n hx hb dX12_tell_19 rfl (lv_at hl 0 rfl) ?_
    refine lv_aload_n hx hb dX12_tell_20 rfl (lv_at hl 0 rfl) ?_
    refine va_get (D := g.1) (ci := 12) (v := .ref (q 8)) (C := RX12) (T := TX12) (N := 66) hx hb hts hg_X12_tell_X12 hown hK hP 2 rfl rfl 8 (by decide) (hts (.fieldLink RX12 22 "OilPushModel" "kind" "[I") (by decide +kernel)) (fun _ h => h) rfl dX12_tell_21 ?_
    refine lv_iload_n hx hb dX12_tell_24 rfl (lv_at hl 1 rfl) ?_
    refine va_iald hx hb hK hP 0 0 rfl rfl (noCyl_in h7 c1).1 dX12_tell_25 ?_
    refine lv_iconst (v := 1) hx hb dX12_tell_26 (by decide) ?_
    refine lv_iadd hx hb dX12_tell_27 ?_
    refine callVV (As := [.int ((a8 (cy.toNatClampNeg)) + 1)]) (rest := []) (wr := [((q 8), .inl (g.2 0, 6, .inl a8)), ((q 11), .inl (g.2 0, 6, .inl a11))]) (Cn := RX12) C (g_traced l g h0 q i L ((a8 (cy.toNatClampNeg)) + 1)) 1 gX12_tell_X12_traced rfl (by decide +kernel) ⟨(Nat.le_of_ble_eq_true rfl), (Nat.le_of_ble_eq_true rfl)⟩ [2] [0, 1] hP hD hA hS rfl rfl rfl rfl (by decide) (k := 2) (ci := 12) rfl rfl rfl rfl hl.1 rfl (Nat.le_of_ble_eq_true rfl) dX12_tell_28 ⟨(Nat.le_of_ble_eq_true rfl), (Nat.le_of_ble_eq_true rfl)⟩ (fun _u H locs hw hP hD hS => ?_)
    have hP : va_P g.1 vwCl [((q 8), .inl (g.2 0, 6, .inl a8)), ((q 11), .inl (g.2 0, 6, .inl a11)), (h0, .inr (12, mO q (upd i 65 ((31 * (i 65)) + ((a8 (cy.toNatClampNeg)) + 1))) L))] H := hP
    have hD : va_D A [((q 8), .inl (g.2 0, 6, .inl a8)), ((q 11), .inl (g.2 0, 6, .inl a11)), (h0, .inr (12, mO q (upd i 65 ((31 * (i 65)) + ((a8 (cy.toNatClampNeg)) + 1))) L))] := hD
    refine lv_aload_n hx hb dX12_tell_31 rfl (lv_at hl 0 rfl) ?_
    refine lv_iconst (v := 1) hx hb dX12_tell_32 (by decide) ?_
    refine callVV (As := [.int 1]) (rest := []) (wr := [((q 8), .inl (g.2 0, 6, .inl a8)), ((q 11), .inl (g.2 0, 6, .inl a11))]) (Cn := RX12) C (g_traced l g h0 q (upd i 65 ((31 * (i 65)) + ((a8 (cy.toNatClampNeg)) + 1))) L 1) 1 gX12_tell_X12_traced rfl (by decide +kernel) ⟨(Nat.le_of_ble_eq_true rfl), (Nat.le_of_ble_eq_true rfl)⟩ [2] [0, 1] hP hD hA hS rfl rfl rfl rfl (by decide) (k := 2) (ci := 12) rfl rfl rfl rfl hl.1 rfl (Nat.le_of_ble_eq_true rfl) dX12_tell_33 ⟨(Nat.le_of_ble_eq_true rfl), (Nat.le_of_ble_eq_true rfl)⟩ (fun _u H locs hw hP hD hS => ?_)
    have hP : va_P g.1 vwCl [((q 8), .inl (g.2 0, 6, .inl a8)), ((q 11), .inl (g.2 0, 6, .inl a11)), (h0, .inr (12, mO q (upd i 65 ((31 * ((31 * (i 65)) + ((a8 (cy.toNatClampNeg)) + 1))) + 1)) L))] H := hP
    have hD : va_D A [((q 8), .inl (g.2 0, 6, .inl a8)), ((q 11), .inl (g.2 0, 6, .inl a11)), (h0, .inr (12, mO q (upd i 65 ((31 * ((31 * (i 65)) + ((a8 (cy.toNatClampNeg)) + 1))) + 1)) L))] := hD
    refine lv_aload_n hx hb dX12_tell_36 rfl (lv_at hl 0 rfl) ?_
    refine va_get (D := g.1) (ci := 12) (v := .ref (q 8)) (C := RX12) (T := TX12) (N := 66) hx hb hts hg_X12_tell_X12 hown hK hP 2 rfl rfl 8 (by decide) (hts (.fieldLink RX12 22 "OilPushModel" "kind" "[I") (by decide +kernel)) (fun _ h => h) rfl dX12_tell_37 ?_
    refine lv_iload_n hx hb dX12_tell_40 rfl (lv_at hl 1 rfl) ?_
    refine va_iald hx hb hK hP 0 0 rfl rfl (noCyl_in h7 c1).1 dX12_tell_41 ?_
    refine lv_if_ne (tgt := 54) hx hb dX12_tell_42 (by decide) (fun c5 => ?_) (fun c5 => ?_)
    · refine lv_aload_n hx hb dX12_tell_54 rfl (lv_at hl 0 rfl) ?_
      refine va_get (D := g.1) (ci := 12) (v := .ref (q 8)) (C := RX12) (T := TX12) (N := 66) hx hb hts hg_X12_tell_X12 hown hK hP 2 rfl rfl 8 (by decide) (hts (.fieldLink RX12 22 "OilPushModel" "kind" "[I") (by decide +kernel)) (fun _ h => h) rfl dX12_tell_55 ?_
      refine lv_iload_n hx hb dX12_tell_58 rfl (lv_at hl 1 rfl) ?_
      refine va_iald hx hb hK hP 0 0 rfl rfl (noCyl_in h7 c1).1 dX12_tell_59 ?_
      refine lv_iconst (v := 1) hx hb dX12_tell_60 (by decide) ?_
      refine lv_icmp_ne (tgt := 77) hx hb dX12_tell_61 (by decide) (fun c6 => ?_) (fun c6 => ?_)
      · refine lv_iconst (v := 2) hx hb dX12_tell_77 (by decide) ?_
        refine lv_aload_n hx hb dX12_tell_78 rfl (lv_at hl 0 rfl) ?_
        refine va_get (D := g.1) (ci := 12) (v := .ref (q 11)) (C := RX12) (T := TX12) (N := 66) hx hb hts hg_X12_tell_X12 hown hK hP 2 rfl rfl 11 (by decide) (hts (.fieldLink RX12 31 "OilPushModel" "oil" "[I") (by decide +kernel)) (fun _ h => h) rfl dX12_tell_79 ?_
        refine lv_iload_n hx hb dX12_tell_82 rfl (lv_at hl 1 rfl) ?_
        refine va_iald hx hb hK hP 1 0 rfl rfl (noCyl_in h7 c1).1 dX12_tell_83 ?_
        refine lv_imul hx hb dX12_tell_84 ?_
        have e90 : (o_g_tell_65 i a8 cy) = ((31 * ((31 * (i 65)) + ((a8 (cy.toNatClampNeg)) + 1))) + 1) := by unfold o_g_tell_65; rw [if_pos c1, if_neg c2, if_neg c5, if_neg c6]
        have hP : va_P g.1 vwCl [((q 8), .inl (g.2 0, 6, .inl a8)), ((q 11), .inl (g.2 0, 6, .inl a11)), (h0, .inr (12, mO q (upd i 65 (o_g_tell_65 i a8 cy)) L))] H := by rw [e90]; exact hP
        have hD : va_D A [((q 8), .inl (g.2 0, 6, .inl a8)), ((q 11), .inl (g.2 0, 6, .inl a11)), (h0, .inr (12, mO q (upd i 65 (o_g_tell_65 i a8 cy)) L))] := by rw [e90]; exact hD
        exact retI C hS () (by unfold r_g_tell; rw [if_pos c1, if_neg c2, if_neg c5, if_neg c6]) (hP.pick [2, 0, 1] rfl) (hD.sub [2, 0, 1] rfl rfl) (Nat.le_of_ble_eq_true rfl) (Nat.le_of_ble_eq_true rfl) dX12_tell_85
      refine lv_aload_n hx hb dX12_tell_64 rfl (lv_at hl 0 rfl) ?_
      refine va_get (D := g.1) (ci := 12) (v := .ref (q 11)) (C := RX12) (T := TX12) (N := 66) hx hb hts hg_X12_tell_X12 hown hK hP 2 rfl rfl 11 (by decide) (hts (.fieldLink RX12 31 "OilPushModel" "oil" "[I") (by decide +kernel)) (fun _ h => h) rfl dX12_tell_65 ?_
      refine lv_iload_n hx hb dX12_tell_68 rfl (lv_at hl 1 rfl) ?_
      refine va_iald hx hb hK hP 1 0 rfl rfl (noCyl_in h7 c1).1 dX12_tell_69 ?_
      refine lv_ldcw (v := 1000000) hx hb hown (hts (.constant RX12 320 (1000000)) (by decide +kernel)) dX12_tell_70 ?_
      refine lv_iadd hx hb dX12_tell_73 ?_
      refine lv_goto (tgt := 85) hx hb dX12_tell_74 (by decide) ?_
      have e90 : (o_g_tell_65 i a8 cy) = ((31 * ((31 * (i 65)) + ((a8 (cy.toNatClampNeg)) + 1))) + 1) := by unfold o_g_tell_65; rw [if_pos c1, if_neg c2, if_neg c5, if_pos c6]
      have hP : va_P g.1 vwCl [((q 8), .inl (g.2 0, 6, .inl a8)), ((q 11), .inl (g.2 0, 6, .inl a11)), (h0, .inr (12, mO q (upd i 65 (o_g_tell_65 i a8 cy)) L))] H := by rw [e90]; exact hP
      have hD : va_D A [((q 8), .inl (g.2 0, 6, .inl a8)), ((q 11), .inl (g.2 0, 6, .inl a11)), (h0, .inr (12, mO q (upd i 65 (o_g_tell_65 i a8 cy)) L))] := by rw [e90]; exact hD
      exact retI C hS () (by unfold r_g_tell; rw [if_pos c1, if_neg c2, if_neg c5, if_pos c6]) (hP.pick [2, 0, 1] rfl) (hD.sub [2, 0, 1] rfl rfl) (Nat.le_of_ble_eq_true rfl) (Nat.le_of_ble_eq_true rfl) dX12_tell_85
    refine lv_aload_n hx hb dX12_tell_45 rfl (lv_at hl 0 rfl) ?_
    refine va_get (D := g.1) (ci := 12) (v := .ref (q 11)) (C := RX12) (T := TX12) (N := 66) hx hb hts hg_X12_tell_X12 hown hK hP 2 rfl rfl 11 (by decide) (hts (.fieldLink RX12 31 "OilPushModel" "oil" "[I") (by decide +kernel)) (fun _ h => h) rfl dX12_tell_46 ?_
    refine lv_iload_n hx hb dX12_tell_49 rfl (lv_at hl 1 rfl) ?_
    refine va_iald hx hb hK hP 1 0 rfl rfl (noCyl_in h7 c1).1 dX12_tell_50 ?_
    refine lv_goto (tgt := 85) hx hb dX12_tell_51 (by decide) ?_
    have e90 : (o_g_tell_65 i a8 cy) = ((31 * ((31 * (i 65)) + ((a8 (cy.toNatClampNeg)) + 1))) + 1) := by unfold o_g_tell_65; rw [if_pos c1, if_neg c2, if_pos c5]
    have hP : va_P g.1 vwCl [((q 8), .inl (g.2 0, 6, .inl a8)), ((q 11), .inl (g.2 0, 6, .inl a11)), (h0, .inr (12, mO q (upd i 65 (o_g_tell_65 i a8 cy)) L))] H := by rw [e90]; exact hP
    have hD : va_D A [((q 8), .inl (g.2 0, 6, .inl a8)), ((q 11), .inl (g.2 0, 6, .inl a11)), (h0, .inr (12, mO q (upd i 65 (o_g_tell_65 i a8 cy)) L))] := by rw [e90]; exact hD
    exact retI C hS () (by unfold r_g_tell; rw [if_pos c1, if_neg c2, if_pos c5]) (hP.pick [2, 0, 1] rfl) (hD.sub [2, 0, 1] rfl rfl) (Nat.le_of_ble_eq_true rfl) (Nat.le_of_ble_eq_true rfl) dX12_tell_85
  refine lv_iconst (v := -1) hx hb dX12_tell_8 (by decide) ?_
  have e90 : (o_g_tell_65 i a8 cy) = (i 65) := by unfold o_g_tell_65; rw [if_neg c1]
  have hP : va_P g.1 vwCl [((q 8), .inl (g.2 0, 6, .inl a8)), ((q 11), .inl (g.2 0, 6, .inl a11)), (h0, .inr (12, mO q (upd i 65 (o_g_tell_65 i a8 cy)) L))] H := by rw [e90]; exact hP
  have hD : va_D A [((q 8), .inl (g.2 0, 6, .inl a8)), ((q 11), .inl (g.2 0, 6, .inl a11)), (h0, .inr (12, mO q (upd i 65 (o_g_tell_65 i a8 cy)) L))] := by rw [e90]; exact hD
  exact retI C hS () (by unfold r_g_tell; rw [if_neg c1]) (hP.pick [2, 0, 1] rfl) (hD.sub [2, 0, 1] rfl rfl) (Nat.le_of_ble_eq_true rfl) (Nat.le_of_ble_eq_true rfl) dX12_tell_9
theorem hg_X12_look_X12 : ∀ w ∈ wsX120, w ∈ wsX12_look := fun w h => List.mem_cons_of_mem _ (List.mem_append_right _ h)
def r_g_look (i : Nat → Int32) (a8 : Nat → Int32) (cy : Int32) : Int32 := (if (r_g_noCylinder i cy) = 0 then (if (a8 (cy.toNatClampNeg)) = 2 then 88 else cy) else (-1))
def o_g_look_65 (i : Nat → Int32) (a8 : Nat → Int32) (cy : Int32) : Int32 := (if (r_g_noCylinder i cy) = 0 then (if (a8 (cy.toNatClampNeg)) = 2 then ((31 * (i 65)) + 5) else ((31 * (i 65)) + 4)) else (i 65))
set_option maxRecDepth 100000 in
set_option maxHeartbeats 4000000 in
theorem g_look (l : Launch) (g : Gt) (h0 : Nat) (q : Nat → Nat) (i : Nat → Int32) (L : Nat → Int64) (a8 : Nat → Int32) (cy : Int32) (h7 : 0 ≤ (i 7).toInt ∧ (i 7).toInt ≤ 6) : Ctr l g yX12_look wsX12_look ({ frames := 2, cells := 0, slots := 0, locals := 46 } : Room) [.ref h0, .int cy] [(h0, .inr (12, mO q i L)), ((q 8), .inl (g.2 0, 6, .inl a8))] (fun A => QI g A (fun r (_ : Unit) => r = (r_g_look i a8 cy)) (fun _u : Unit => [(h0, .inr (12, mO q (upd i 65 (o_g_look_65 i a8 cy)) L)), ((q 8), .inl (g.2 0, 6, .inl a8))])) := by
  refine Ctr.of (cc := cX12_look) (maxL := 2) (ret := (some .int)) (by decide) rfl (Nat.le_of_ble_eq_true rfl) ?_
  intro p e s m below meth c A ls H C hP hD hA hS hl
  obtain ⟨hx, hb, hr, hts, hown, hlocks, hml, hin, hKN⟩ := id C
  have hK := hKN.1
  have hN := hKN.2
  have F : CallFix p m c cX12_look 2 s _ wsX12_look yX12_look.cls := ⟨hx, hb, hml, hown, hts⟩
  have hl : lv_has ls 2 [(0, .ref h0), (1, .int cy)] := hl
  refine lv_aload_n hx hb dX12_look_0 rfl (lv_at hl 0 rfl) ?_
  refine lv_iload_n hx hb dX12_look_1 rfl (lv_at hl 1 rfl) ?_
  refine callIV (As := [.int cy]) (rest := []) (wr := [((q 8), .inl (g.2 0, 6, .inl a8))]) (Cn := RX12) C (g_noCylinder l g h0 q i L cy) 1 gX12_look_X12_noCylinder rfl (by decide +kernel) ⟨(Nat.le_of_ble_eq_true rfl), (Nat.le_of_ble_eq_true rfl)⟩ [0] [1] hP hD hA hS rfl rfl rfl rfl (by decide) (k := 0) (ci := 12) rfl rfl rfl rfl hl.1 rfl (Nat.le_of_ble_eq_true rfl) dX12_look_2 ⟨(Nat.le_of_ble_eq_true rfl), (Nat.le_of_ble_eq_true rfl)⟩ (fun r _u H locs hw hP hD hS => ?_)
  have hP : va_P g.1 vwCl [((q 8), .inl (g.2 0, 6, .inl a8)), (h0, .inr (12, mO q i L))] H := hP
  have hD : va_D A [((q 8), .inl (g.2 0, 6, .inl a8)), (h0, .inr (12, mO q i L))] := hD
  subst hw
  refine lv_if_eq (tgt := 10) hx hb dX12_look_5 (by decide) (fun c1 => ?_) (fun c1 => ?_)
  · refine lv_aload_n hx hb dX12_look_10 rfl (lv_at hl 0 rfl) ?_
    refine lv_aload_n hx hb dX12_look_11 rfl (lv_at hl 0 rfl) ?_
    refine va_get (D := g.1) (ci := 12) (v := .ref (q 8)) (C := RX12) (T := TX12) (N := 66) hx hb hts hg_X12_look_X12 hown hK hP 1 rfl rfl 8 (by decide) (hts (.fieldLink RX12 22 "OilPushModel" "kind" "[I") (by decide +kernel)) (fun _ h => h) rfl dX12_look_12 ?_
    refine lv_iload_n hx hb dX12_look_15 rfl (lv_at hl 1 rfl) ?_
    refine va_iald hx hb hK hP 0 0 rfl rfl (noCyl_in h7 c1).1 dX12_look_16 ?_
    refine lv_iconst (v := 2) hx hb dX12_look_17 (by decide) ?_
    refine lv_icmp_ne (tgt := 25) hx hb dX12_look_18 (by decide) (fun c2 => ?_) (fun c2 => ?_)
    · refine lv_iconst (v := 4) hx hb dX12_look_25 (by decide) ?_
      refine callVV (As := [.int 4]) (rest := []) (wr := [((q 8), .inl (g.2 0, 6, .inl a8))]) (Cn := RX12) C (g_traced l g h0 q i L 4) 1 gX12_look_X12_traced rfl (by decide +kernel) ⟨(Nat.le_of_ble_eq_true rfl), (Nat.le_of_ble_eq_true rfl)⟩ [1] [0] hP hD hA hS rfl rfl rfl rfl (by decide) (k := 1) (ci := 12) rfl rfl rfl rfl hl.1 rfl (Nat.le_of_ble_eq_true rfl) dX12_look_26 ⟨(Nat.le_of_ble_eq_true rfl), (Nat.le_of_ble_eq_true rfl)⟩ (fun _u H locs hw hP hD hS => ?_)
      have hP : va_P g.1 vwCl [((q 8), .inl (g.2 0, 6, .inl a8)), (h0, .inr (12, mO q (upd i 65 ((31 * (i 65)) + 4)) L))] H := hP
      have hD : va_D A [((q 8), .inl (g.2 0, 6, .inl a8)), (h0, .inr (12, mO q (upd i 65 ((31 * (i 65)) + 4)) L))] := hD
      refine lv_aload_n hx hb dX12_look_29 rfl (lv_at hl 0 rfl) ?_
      refine va_get (D := g.1) (ci := 12) (v := .ref (q 8)) (C := RX12) (T := TX12) (N := 66) hx hb hts hg_X12_look_X12 hown hK hP 1 rfl rfl 8 (by decide) (hts (.fieldLink RX12 22 "OilPushModel" "kind" "[I") (by decide +kernel)) (fun _ h => h) rfl dX12_look_30 ?_
      refine lv_iload_n hx hb dX12_look_33 rfl (lv_at hl 1 rfl) ?_
      refine va_iald hx hb hK hP 0 0 rfl rfl (noCyl_in h7 c1).1 dX12_look_34 ?_
      refine lv_iconst (v := 2) hx hb dX12_look_35 (by decide) ?_
      refine lv_icmp_ne (tgt := 44) hx hb dX12_look_36 (by decide) (fun _ => ?_) (fun cc0 => absurd cc0 c2)
      refine lv_iload_n hx hb dX12_look_44 rfl (lv_at hl 1 rfl) ?_
      have e90 : (o_g_look_65 i a8 cy) = ((31 * (i 65)) + 4) := by unfold o_g_look_65; rw [if_pos c1, if_neg c2]
      have hP : va_P g.1 vwCl [((q 8), .inl (g.2 0, 6, .inl a8)), (h0, .inr (12, mO q (upd i 65 (o_g_look_65 i a8 cy)) L))] H := by rw [e90]; exact hP
      have hD : va_D A [((q 8), .inl (g.2 0, 6, .inl a8)), (h0, .inr (12, mO q (upd i 65 (o_g_look_65 i a8 cy)) L))] := by rw [e90]; exact hD
      exact retI C hS () (by unfold r_g_look; rw [if_pos c1, if_neg c2]) (hP.pick [1, 0] rfl) (hD.sub [1, 0] rfl rfl) (Nat.le_of_ble_eq_true rfl) (Nat.le_of_ble_eq_true rfl) dX12_look_45
    refine lv_iconst (v := 5) hx hb dX12_look_21 (by decide) ?_
    refine lv_goto (tgt := 26) hx hb dX12_look_22 (by decide) ?_
    refine callVV (As := [.int 5]) (rest := []) (wr := [((q 8), .inl (g.2 0, 6, .inl a8))]) (Cn := RX12) C (g_traced l g h0 q i L 5) 1 gX12_look_X12_traced rfl (by decide +kernel) ⟨(Nat.le_of_ble_eq_true rfl), (Nat.le_of_ble_eq_true rfl)⟩ [1] [0] hP hD hA hS rfl rfl rfl rfl (by decide) (k := 1) (ci := 12) rfl rfl rfl rfl hl.1 rfl (Nat.le_of_ble_eq_true rfl) dX12_look_26 ⟨(Nat.le_of_ble_eq_true rfl), (Nat.le_of_ble_eq_true rfl)⟩ (fun _u H locs hw hP hD hS => ?_)
    have hP : va_P g.1 vwCl [((q 8), .inl (g.2 0, 6, .inl a8)), (h0, .inr (12, mO q (upd i 65 ((31 * (i 65)) + 5)) L))] H := hP
    have hD : va_D A [((q 8), .inl (g.2 0, 6, .inl a8)), (h0, .inr (12, mO q (upd i 65 ((31 * (i 65)) + 5)) L))] := hD
    refine lv_aload_n hx hb dX12_look_29 rfl (lv_at hl 0 rfl) ?_
    refine va_get (D := g.1) (ci := 12) (v := .ref (q 8)) (C := RX12) (T := TX12) (N := 66) hx hb hts hg_X12_look_X12 hown hK hP 1 rfl rfl 8 (by decide) (hts (.fieldLink RX12 22 "OilPushModel" "kind" "[I") (by decide +kernel)) (fun _ h => h) rfl dX12_look_30 ?_
    refine lv_iload_n hx hb dX12_look_33 rfl (lv_at hl 1 rfl) ?_
    refine va_iald hx hb hK hP 0 0 rfl rfl (noCyl_in h7 c1).1 dX12_look_34 ?_
    refine lv_iconst (v := 2) hx hb dX12_look_35 (by decide) ?_
    refine lv_icmp_ne (tgt := 44) hx hb dX12_look_36 (by decide) (fun cc0 => absurd c2 cc0) (fun _ => ?_)
    refine lv_bipush (v := 88) hx hb dX12_look_39 (by decide) ?_
    refine lv_goto (tgt := 45) hx hb dX12_look_41 (by decide) ?_
    have e90 : (o_g_look_65 i a8 cy) = ((31 * (i 65)) + 5) := by unfold o_g_look_65; rw [if_pos c1, if_pos c2]
    have hP : va_P g.1 vwCl [((q 8), .inl (g.2 0, 6, .inl a8)), (h0, .inr (12, mO q (upd i 65 (o_g_look_65 i a8 cy)) L))] H := by rw [e90]; exact hP
    have hD : va_D A [((q 8), .inl (g.2 0, 6, .inl a8)), (h0, .inr (12, mO q (upd i 65 (o_g_look_65 i a8 cy)) L))] := by rw [e90]; exact hD
    exact retI C hS () (by unfold r_g_look; rw [if_pos c1, if_pos c2]) (hP.pick [1, 0] rfl) (hD.sub [1, 0] rfl rfl) (Nat.le_of_ble_eq_true rfl) (Nat.le_of_ble_eq_true rfl) dX12_look_45
  refine lv_iconst (v := -1) hx hb dX12_look_8 (by decide) ?_
  have e90 : (o_g_look_65 i a8 cy) = (i 65) := by unfold o_g_look_65; rw [if_neg c1]
  have hP : va_P g.1 vwCl [((q 8), .inl (g.2 0, 6, .inl a8)), (h0, .inr (12, mO q (upd i 65 (o_g_look_65 i a8 cy)) L))] H := by rw [e90]; exact hP
  have hD : va_D A [((q 8), .inl (g.2 0, 6, .inl a8)), (h0, .inr (12, mO q (upd i 65 (o_g_look_65 i a8 cy)) L))] := by rw [e90]; exact hD
  exact retI C hS () (by unfold r_g_look; rw [if_neg c1]) (hP.pick [1, 0] rfl) (hD.sub [1, 0] rfl rfl) (Nat.le_of_ble_eq_true rfl) (Nat.le_of_ble_eq_true rfl) dX12_look_9
theorem hg_X12_as_X12 : ∀ w ∈ wsX120, w ∈ wsX12_as := fun w h => List.mem_cons_of_mem _ (List.mem_append_right _ h)
def r_g_as (i : Nat → Int32) (a8 : Nat → Int32) (cy : Int32) (k : Int32) : Int32 := (if (r_g_noCylinder i cy) = 0 then (if (r_c_in (Int32.toInt64 k) 0 2) = 0 then (-2) else (if (a8 (cy.toNatClampNeg)) < k then ((-10) - 2) else 1)) else (-1))
def o_g_as_0 (i : Nat → Int32) (a8 : Nat → Int32) (cy : Int32) (k : Int32) : Int32 := (if (r_g_noCylinder i cy) = 0 then (if (r_c_in (Int32.toInt64 k) 0 2) = 0 then 0 else (if (a8 (cy.toNatClampNeg)) < k then 2 else 0)) else 0)
set_option maxRecDepth 100000 in
set_option maxHeartbeats 4000000 in
theorem g_as (l : Launch) (g : Gt) (h0 : Nat) (q : Nat → Nat) (i : Nat → Int32) (L : Nat → Int64) (a8 : Nat → Int32) (cy : Int32) (k : Int32) (h7 : 0 ≤ (i 7).toInt ∧ (i 7).toInt ≤ 6) : Ctr l g yX12_as wsX12_as ({ frames := 2, cells := 0, slots := 0, locals := 46 } : Room) [.ref h0, .int cy, .int k] [(h0, .inr (12, mO q i L)), ((q 8), .inl (g.2 0, 6, .inl a8))] (fun A => QI g A (fun r (_ : Unit) => r = (r_g_as i a8 cy k)) (fun _u : Unit => [(h0, .inr (12, mO q (upd i 0 (o_g_as_0 i a8 cy k)) L)), ((q 8), .inl (g.2 0, 6, .inl a8))])) := by
  refine Ctr.of (cc := cX12_as) (maxL := 3) (ret := (some .int)) (by decide) rfl (Nat.le_of_ble_eq_true rfl) ?_
  intro p e s m below meth c A ls H C hP hD hA hS hl
  obtain ⟨hx, hb, hr, hts, hown, hlocks, hml, hin, hKN⟩ := id C
  have hK := hKN.1
  have hN := hKN.2
  have F : CallFix p m c cX12_as 3 s _ wsX12_as yX12_as.cls := ⟨hx, hb, hml, hown, hts⟩
  have hl : lv_has ls 3 [(0, .ref h0), (1, .int cy), (2, .int k)] := hl
  refine lv_aload_n hx hb dX12_as_0 rfl (lv_at hl 0 rfl) ?_
  refine lv_iload_n hx hb dX12_as_1 rfl (lv_at hl 1 rfl) ?_
  refine callIV (As := [.int cy]) (rest := []) (wr := [((q 8), .inl (g.2 0, 6, .inl a8))]) (Cn := RX12) C (g_noCylinder l g h0 q i L cy) 1 gX12_as_X12_noCylinder rfl (by decide +kernel) ⟨(Nat.le_of_ble_eq_true rfl), (Nat.le_of_ble_eq_true rfl)⟩ [0] [1] hP hD hA hS rfl rfl rfl rfl (by decide) (k := 0) (ci := 12) rfl rfl rfl rfl hl.1 rfl (Nat.le_of_ble_eq_true rfl) dX12_as_2 ⟨(Nat.le_of_ble_eq_true rfl), (Nat.le_of_ble_eq_true rfl)⟩ (fun r _u H locs hw hP hD hS => ?_)
  have hP : va_P g.1 vwCl [((q 8), .inl (g.2 0, 6, .inl a8)), (h0, .inr (12, mO q i L))] H := hP
  have hD : va_D A [((q 8), .inl (g.2 0, 6, .inl a8)), (h0, .inr (12, mO q i L))] := hD
  subst hw
  refine lv_if_eq (tgt := 14) hx hb dX12_as_5 (by decide) (fun c1 => ?_) (fun c1 => ?_)
  · refine lv_iload_n hx hb dX12_as_14 rfl (lv_at hl 2 rfl) ?_
    refine lv_i2l hx hb dX12_as_15 rfl ?_
    refine lv_lconst (v := 0) hx hb dX12_as_16 (by decide) ?_
    refine lv_ldc2 (v := 2) hx hb hown (hts (.constantLong RX12 162 (2)) (by decide +kernel)) dX12_as_17 ?_
    refine pureIS (As := [.long (Int32.toInt64 k), .long 0, .long 2]) (rest := []) F (c_in l (Int32.toInt64 k) 0 2) 3 gX12_as_X12_in rfl (by decide +kernel) rfl rfl ⟨(Nat.le_of_ble_eq_true rfl), (Nat.le_of_ble_eq_true rfl)⟩ (Nat.le_of_ble_eq_true rfl) (Nat.le_of_ble_eq_true rfl) rfl hl.1 rfl (Nat.le_of_ble_eq_true rfl) dX12_as_20 ?_
    refine lv_if_ne (tgt := 33) hx hb dX12_as_23 (by decide) (fun c2 => ?_) (fun c2 => ?_)
    · refine lv_aload_n hx hb dX12_as_33 rfl (lv_at hl 0 rfl) ?_
      refine va_get (D := g.1) (ci := 12) (v := .ref (q 8)) (C := RX12) (T := TX12) (N := 66) hx hb hts hg_X12_as_X12 hown hK hP 1 rfl rfl 8 (by decide) (hts (.fieldLink RX12 22 "OilPushModel" "kind" "[I") (by decide +kernel)) (fun _ h => h) rfl dX12_as_34 ?_
      refine lv_iload_n hx hb dX12_as_37 rfl (lv_at hl 1 rfl) ?_
      refine va_iald hx hb hK hP 0 0 rfl rfl (noCyl_in h7 c1).1 dX12_as_38 ?_
      refine lv_iload_n hx hb dX12_as_39 rfl (lv_at hl 2 rfl) ?_
      refine lv_icmp_lt (tgt := 51) hx hb dX12_as_40 (by decide) (fun c3 => ?_) (fun c3 => ?_)
      · refine lv_aload_n hx hb dX12_as_51 rfl (lv_at hl 0 rfl) ?_
        refine lv_iconst (v := 2) hx hb dX12_as_52 (by decide) ?_
        refine callIV (As := [.int 2]) (rest := []) (wr := [((q 8), .inl (g.2 0, 6, .inl a8))]) (Cn := RX12) C (g_failed l g h0 q i L 2) 1 gX12_as_X12_failed rfl (by decide +kernel) ⟨(Nat.le_of_ble_eq_true rfl), (Nat.le_of_ble_eq_true rfl)⟩ [1] [0] hP hD hA hS rfl rfl rfl rfl (by decide) (k := 1) (ci := 12) rfl rfl rfl rfl hl.1 rfl (Nat.le_of_ble_eq_true rfl) dX12_as_53 ⟨(Nat.le_of_ble_eq_true rfl), (Nat.le_of_ble_eq_true rfl)⟩ (fun r _u H locs hw hP hD hS => ?_)
        have hP : va_P g.1 vwCl [((q 8), .inl (g.2 0, 6, .inl a8)), (h0, .inr (12, mO q (upd i 0 2) L))] H := hP
        have hD : va_D A [((q 8), .inl (g.2 0, 6, .inl a8)), (h0, .inr (12, mO q (upd i 0 2) L))] := hD
        subst hw
        have e90 : (o_g_as_0 i a8 cy k) = 2 := by unfold o_g_as_0; rw [if_pos c1, if_neg c2, if_pos c3]
        have hP : va_P g.1 vwCl [((q 8), .inl (g.2 0, 6, .inl a8)), (h0, .inr (12, mO q (upd i 0 (o_g_as_0 i a8 cy k)) L))] H := by rw [e90]; exact hP
        have hD : va_D A [((q 8), .inl (g.2 0, 6, .inl a8)), (h0, .inr (12, mO q (upd i 0 (o_g_as_0 i a8 cy k)) L))] := by rw [e90]; exact hD
        exact retI C hS () (by unfold r_g_as; rw [if_pos c1, if_neg c2, if_pos c3]) (hP.pick [1, 0] rfl) (hD.sub [1, 0] rfl rfl) (Nat.le_of_ble_eq_true rfl) (Nat.le_of_ble_eq_true rfl) dX12_as_56
      refine lv_aload_n hx hb dX12_as_43 rfl (lv_at hl 0 rfl) ?_
      refine lv_iconst (v := 1) hx hb dX12_as_44 (by decide) ?_
      refine callIV (As := [.int 1]) (rest := []) (wr := [((q 8), .inl (g.2 0, 6, .inl a8))]) (Cn := RX12) C (g_refused l g h0 q i L 1) 1 gX12_as_X12_refused rfl (by decide +kernel) ⟨(Nat.le_of_ble_eq_true rfl), (Nat.le_of_ble_eq_true rfl)⟩ [1] [0] hP hD hA hS rfl rfl rfl rfl (by decide) (k := 1) (ci := 12) rfl rfl rfl rfl hl.1 rfl (Nat.le_of_ble_eq_true rfl) dX12_as_45 ⟨(Nat.le_of_ble_eq_true rfl), (Nat.le_of_ble_eq_true rfl)⟩ (fun r _u H locs hw hP hD hS => ?_)
      have hP : va_P g.1 vwCl [((q 8), .inl (g.2 0, 6, .inl a8)), (h0, .inr (12, mO q (upd i 0 0) L))] H := hP
      have hD : va_D A [((q 8), .inl (g.2 0, 6, .inl a8)), (h0, .inr (12, mO q (upd i 0 0) L))] := hD
      subst hw
      refine lv_goto (tgt := 56) hx hb dX12_as_48 (by decide) ?_
      have e90 : (o_g_as_0 i a8 cy k) = 0 := by unfold o_g_as_0; rw [if_pos c1, if_neg c2, if_neg c3]
      have hP : va_P g.1 vwCl [((q 8), .inl (g.2 0, 6, .inl a8)), (h0, .inr (12, mO q (upd i 0 (o_g_as_0 i a8 cy k)) L))] H := by rw [e90]; exact hP
      have hD : va_D A [((q 8), .inl (g.2 0, 6, .inl a8)), (h0, .inr (12, mO q (upd i 0 (o_g_as_0 i a8 cy k)) L))] := by rw [e90]; exact hD
      exact retI C hS () (by unfold r_g_as; rw [if_pos c1, if_neg c2, if_neg c3]) (hP.pick [1, 0] rfl) (hD.sub [1, 0] rfl rfl) (Nat.le_of_ble_eq_true rfl) (Nat.le_of_ble_eq_true rfl) dX12_as_56
    refine lv_aload_n hx hb dX12_as_26 rfl (lv_at hl 0 rfl) ?_
    refine lv_bipush (v := -2) hx hb dX12_as_27 (by decide) ?_
    refine callIV (As := [.int (-2)]) (rest := []) (wr := [((q 8), .inl (g.2 0, 6, .inl a8))]) (Cn := RX12) C (g_refused l g h0 q i L (-2)) 1 gX12_as_X12_refused rfl (by decide +kernel) ⟨(Nat.le_of_ble_eq_true rfl), (Nat.le_of_ble_eq_true rfl)⟩ [1] [0] hP hD hA hS rfl rfl rfl rfl (by decide) (k := 1) (ci := 12) rfl rfl rfl rfl hl.1 rfl (Nat.le_of_ble_eq_true rfl) dX12_as_29 ⟨(Nat.le_of_ble_eq_true rfl), (Nat.le_of_ble_eq_true rfl)⟩ (fun r _u H locs hw hP hD hS => ?_)
    have hP : va_P g.1 vwCl [((q 8), .inl (g.2 0, 6, .inl a8)), (h0, .inr (12, mO q (upd i 0 0) L))] H := hP
    have hD : va_D A [((q 8), .inl (g.2 0, 6, .inl a8)), (h0, .inr (12, mO q (upd i 0 0) L))] := hD
    subst hw
    have e90 : (o_g_as_0 i a8 cy k) = 0 := by unfold o_g_as_0; rw [if_pos c1, if_pos c2]
    have hP : va_P g.1 vwCl [((q 8), .inl (g.2 0, 6, .inl a8)), (h0, .inr (12, mO q (upd i 0 (o_g_as_0 i a8 cy k)) L))] H := by rw [e90]; exact hP
    have hD : va_D A [((q 8), .inl (g.2 0, 6, .inl a8)), (h0, .inr (12, mO q (upd i 0 (o_g_as_0 i a8 cy k)) L))] := by rw [e90]; exact hD
    exact retI C hS () (by unfold r_g_as; rw [if_pos c1, if_pos c2]) (hP.pick [1, 0] rfl) (hD.sub [1, 0] rfl rfl) (Nat.le_of_ble_eq_true rfl) (Nat.le_of_ble_eq_true rfl) dX12_as_32
  refine lv_aload_n hx hb dX12_as_8 rfl (lv_at hl 0 rfl) ?_
  refine lv_iconst (v := -1) hx hb dX12_as_9 (by decide) ?_
  refine callIV (As := [.int (-1)]) (rest := []) (wr := [((q 8), .inl (g.2 0, 6, .inl a8))]) (Cn := RX12) C (g_refused l g h0 q i L (-1)) 1 gX12_as_X12_refused rfl (by decide +kernel) ⟨(Nat.le_of_ble_eq_true rfl), (Nat.le_of_ble_eq_true rfl)⟩ [1] [0] hP hD hA hS rfl rfl rfl rfl (by decide) (k := 1) (ci := 12) rfl rfl rfl rfl hl.1 rfl (Nat.le_of_ble_eq_true rfl) dX12_as_10 ⟨(Nat.le_of_ble_eq_true rfl), (Nat.le_of_ble_eq_true rfl)⟩ (fun r _u H locs hw hP hD hS => ?_)
  have hP : va_P g.1 vwCl [((q 8), .inl (g.2 0, 6, .inl a8)), (h0, .inr (12, mO q (upd i 0 0) L))] H := hP
  have hD : va_D A [((q 8), .inl (g.2 0, 6, .inl a8)), (h0, .inr (12, mO q (upd i 0 0) L))] := hD
  subst hw
  have e90 : (o_g_as_0 i a8 cy k) = 0 := by unfold o_g_as_0; rw [if_neg c1]
  have hP : va_P g.1 vwCl [((q 8), .inl (g.2 0, 6, .inl a8)), (h0, .inr (12, mO q (upd i 0 (o_g_as_0 i a8 cy k)) L))] H := by rw [e90]; exact hP
  have hD : va_D A [((q 8), .inl (g.2 0, 6, .inl a8)), (h0, .inr (12, mO q (upd i 0 (o_g_as_0 i a8 cy k)) L))] := by rw [e90]; exact hD
  exact retI C hS () (by unfold r_g_as; rw [if_neg c1]) (hP.pick [1, 0] rfl) (hD.sub [1, 0] rfl rfl) (Nat.le_of_ble_eq_true rfl) (Nat.le_of_ble_eq_true rfl) dX12_as_13
theorem hg_X12_rule_X12 : ∀ w ∈ wsX120, w ∈ wsX12_rule := fun w h => List.mem_cons_of_mem _ (List.mem_append_right _ h)
def r_g_rule (i : Nat → Int32) (a14 : Nat → Int32) (a15 : Nat → Int32) (a16 : Nat → Int32) (cy : Int32) (what : Int32) (v : Int32) : Int32 := (if (r_g_noCylinder i cy) = 0 then (if (r_c_in (Int32.toInt64 what) 0 2) = 0 then (-1) else (if what = 1 then (if what = 0 then (if (r_c_in (Int32.toInt64 v) 1 500) = 0 then (-2) else (if what = 2 then (a14 (cy.toNatClampNeg)) else (a14 (cy.toNatClampNeg)))) else (if (r_c_in (Int32.toInt64 v) 1 1000) = 0 then (-2) else (if what = 2 then (a15 (cy.toNatClampNeg)) else (a15 (cy.toNatClampNeg))))) else (if what = 0 then (if (r_c_in (Int32.toInt64 v) 0 500) = 0 then (-2) else (if what = 2 then (a14 (cy.toNatClampNeg)) else (a14 (cy.toNatClampNeg)))) else (if (r_c_in (Int32.toInt64 v) 0 100) = 0 then (-2) else (if what = 2 then (a16 (cy.toNatClampNeg)) else (a16 (cy.toNatClampNeg))))))) else (-1))
def o_g_rule_q14 (i : Nat → Int32) (a14 : Nat → Int32) (cy : Int32) (what : Int32) (v : Int32) : Nat → Int32 := (if (r_g_noCylinder i cy) = 0 then (if (r_c_in (Int32.toInt64 what) 0 2) = 0 then a14 else (if what = 1 then (if what = 0 then (if (r_c_in (Int32.toInt64 v) 1 500) = 0 then a14 else (if what = 2 then (upd a14 (cy.toNatClampNeg) v) else (upd a14 (cy.toNatClampNeg) v))) else (if (r_c_in (Int32.toInt64 v) 1 1000) = 0 then a14 else (if what = 2 then (upd a14 (cy.toNatClampNeg) (a14 (cy.toNatClampNeg))) else (upd a14 (cy.toNatClampNeg) (a14 (cy.toNatClampNeg)))))) else (if what = 0 then (if (r_c_in (Int32.toInt64 v) 0 500) = 0 then a14 else (if what = 2 then (upd a14 (cy.toNatClampNeg) v) else (upd a14 (cy.toNatClampNeg) v))) else (if (r_c_in (Int32.toInt64 v) 0 100) = 0 then a14 else (if what = 2 then (upd a14 (cy.toNatClampNeg) (a14 (cy.toNatClampNeg))) else (upd a14 (cy.toNatClampNeg) (a14 (cy.toNatClampNeg)))))))) else a14)
def o_g_rule_q15 (i : Nat → Int32) (a15 : Nat → Int32) (cy : Int32) (what : Int32) (v : Int32) : Nat → Int32 := (if (r_g_noCylinder i cy) = 0 then (if (r_c_in (Int32.toInt64 what) 0 2) = 0 then a15 else (if what = 1 then (if what = 0 then (if (r_c_in (Int32.toInt64 v) 1 500) = 0 then a15 else (if what = 2 then (upd a15 (cy.toNatClampNeg) v) else (upd a15 (cy.toNatClampNeg) v))) else (if (r_c_in (Int32.toInt64 v) 1 1000) = 0 then a15 else (if what = 2 then (upd a15 (cy.toNatClampNeg) v) else (upd a15 (cy.toNatClampNeg) v)))) else (if what = 0 then (if (r_c_in (Int32.toInt64 v) 0 500) = 0 then a15 else (if what = 2 then (upd a15 (cy.toNatClampNeg) (a15 (cy.toNatClampNeg))) else (upd a15 (cy.toNatClampNeg) (a15 (cy.toNatClampNeg))))) else (if (r_c_in (Int32.toInt64 v) 0 100) = 0 then a15 else (if what = 2 then (upd a15 (cy.toNatClampNeg) (a15 (cy.toNatClampNeg))) else (upd a15 (cy.toNatClampNeg) (a15 (cy.toNatClampNeg)))))))) else a15)
def o_g_rule_q16 (i : Nat → Int32) (a16 : Nat → Int32) (cy : Int32) (what : Int32) (v : Int32) : Nat → Int32 := (if (r_g_noCylinder i cy) = 0 then (if (r_c_in (Int32.toInt64 what) 0 2) = 0 then a16 else (if what = 1 then (if what = 0 then (if (r_c_in (Int32.toInt64 v) 1 500) = 0 then a16 else (if what = 2 then (upd a16 (cy.toNatClampNeg) v) else (upd a16 (cy.toNatClampNeg) (a16 (cy.toNatClampNeg))))) else (if (r_c_in (Int32.toInt64 v) 1 1000) = 0 then a16 else (if what = 2 then (upd a16 (cy.toNatClampNeg) v) else (upd a16 (cy.toNatClampNeg) (a16 (cy.toNatClampNeg)))))) else (if what = 0 then (if (r_c_in (Int32.toInt64 v) 0 500) = 0 then a16 else (if what = 2 then (upd a16 (cy.toNatClampNeg) v) else (upd a16 (cy.toNatClampNeg) (a16 (cy.toNatClampNeg))))) else (if (r_c_in (Int32.toInt64 v) 0 100) = 0 then a16 else (if what = 2 then (upd a16 (cy.toNatClampNeg) v) else (upd a16 (cy.toNatClampNeg) (a16 (cy.toNatClampNeg)))))))) else a16)
set_option maxRecDepth 100000 in
set_option maxHeartbeats 4000000 in
theorem g_rule (l : Launch) (g : Gt) (h0 : Nat) (q : Nat → Nat) (i : Nat → Int32) (L : Nat → Int64) (a14 : Nat → Int32) (a15 : Nat → Int32) (a16 : Nat → Int32) (cy : Int32) (what : Int32) (v : Int32) (h7 : 0 ≤ (i 7).toInt ∧ (i 7).toInt ≤ 6) : Ctr l g yX12_rule wsX12_rule ({ frames := 2, cells := 0, slots := 0, locals := 46 } : Room) [.ref h0, .int cy, .int what, .int v] [(h0, .inr (12, mO q i L)), ((q 14), .inl (g.2 0, 6, .inl a14)), ((q 15), .inl (g.2 0, 6, .inl a15)), ((q 16), .inl (g.2 0, 6, .inl a16))] (fun A => QI g A (fun r (_ : Unit) => r = (r_g_rule i a14 a15 a16 cy what v)) (fun _u : Unit => [(h0, .inr (12, mO q i L)), ((q 14), .inl (g.2 0, 6, .inl (o_g_rule_q14 i a14 cy what v))), ((q 15), .inl (g.2 0, 6, .inl (o_g_rule_q15 i a15 cy what v))), ((q 16), .inl (g.2 0, 6, .inl (o_g_rule_q16 i a16 cy what v)))])) := by
  refine Ctr.of (cc := cX12_rule) (maxL := 5) (ret := (some .int)) (by decide) rfl (Nat.le_of_ble_eq_true rfl) ?_
  intro p e s m below meth c A ls H C hP hD hA hS hl
  obtain ⟨hx, hb, hr, hts, hown, hlocks, hml, hin, hKN⟩ := id C
  have hK := hKN.1
  have hN := hKN.2
  have F : CallFix p m c cX12_rule 5 s _ wsX12_rule yX12_rule.cls := ⟨hx, hb, hml, hown, hts⟩
  have hl : lv_has ls 5 [(0, .ref h0), (1, .int cy), (2, .int what), (3, .int v)] := hl
  refine lv_aload_n hx hb dX12_rule_0 rfl (lv_at hl 0 rfl) ?_
  refine lv_iload_n hx hb dX12_rule_1 rfl (lv_at hl 1 rfl) ?_
  refine callIV (As := [.int cy]) (rest := []) (wr := [((q 14), .inl (g.2 0, 6, .inl a14)), ((q 15), .inl (g.2 0, 6, .inl a15)), ((q 16), .inl (g.2 0, 6, .inl a16))]) (Cn := RX12) C (g_noCylinder l g h0 q i L cy) 1 gX12_rule_X12_noCylinder rfl (by decide +kernel) ⟨(Nat.le_of_ble_eq_true rfl), (Nat.le_of_ble_eq_true rfl)⟩ [0] [1, 2, 3] hP hD hA hS rfl rfl rfl rfl (by decide) (k := 0) (ci := 12) rfl rfl rfl rfl hl.1 rfl (Nat.le_of_ble_eq_true rfl) dX12_rule_2 ⟨(Nat.le_of_ble_eq_true rfl), (Nat.le_of_ble_eq_true rfl)⟩ (fun r _u H locs hw hP hD hS => ?_)
  have hP : va_P g.1 vwCl [((q 14), .inl (g.2 0, 6, .inl a14)), ((q 15), .inl (g.2 0, 6, .inl a15)), ((q 16), .inl (g.2 0, 6, .inl a16)), (h0, .inr (12, mO q i L))] H := hP
  have hD : va_D A [((q 14), .inl (g.2 0, 6, .inl a14)), ((q 15), .inl (g.2 0, 6, .inl a15)), ((q 16), .inl (g.2 0, 6, .inl a16)), (h0, .inr (12, mO q i L))] := hD
  subst hw
  refine lv_if_ne (tgt := 20) hx hb dX12_rule_5 (by decide) (fun c1 => ?_) (fun c1 => ?_)
  · refine lv_iconst (v := -1) hx hb dX12_rule_20 (by decide) ?_
    have e90 : (o_g_rule_q14 i a14 cy what v) = a14 := by unfold o_g_rule_q14; rw [if_neg c1]
    have e91 : (o_g_rule_q15 i a15 cy what v) = a15 := by unfold o_g_rule_q15; rw [if_neg c1]
    have e92 : (o_g_rule_q16 i a16 cy what v) = a16 := by unfold o_g_rule_q16; rw [if_neg c1]
    have hP : va_P g.1 vwCl [((q 14), .inl (g.2 0, 6, .inl (o_g_rule_q14 i a14 cy what v))), ((q 15), .inl (g.2 0, 6, .inl (o_g_rule_q15 i a15 cy what v))), ((q 16), .inl (g.2 0, 6, .inl (o_g_rule_q16 i a16 cy what v))), (h0, .inr (12, mO q i L))] H := by rw [e90, e91, e92]; exact hP
    have hD : va_D A [((q 14), .inl (g.2 0, 6, .inl (o_g_rule_q14 i a14 cy what v))), ((q 15), .inl (g.2 0, 6, .inl (o_g_rule_q15 i a15 cy what v))), ((q 16), .inl (g.2 0, 6, .inl (o_g_rule_q16 i a16 cy what v))), (h0, .inr (12, mO q i L))] := by rw [e90, e91, e92]; exact hD
    exact retI C hS () (by unfold r_g_rule; rw [if_neg c1]) (hP.pick [3, 0, 1, 2] rfl) (hD.sub [3, 0, 1, 2] rfl rfl) (Nat.le_of_ble_eq_true rfl) (Nat.le_of_ble_eq_true rfl) dX12_rule_21
  refine lv_iload_n hx hb dX12_rule_8 rfl (lv_at hl 2 rfl) ?_
  refine lv_i2l hx hb dX12_rule_9 rfl ?_
  refine lv_lconst (v := 0) hx hb dX12_rule_10 (by decide) ?_
  refine lv_ldc2 (v := 2) hx hb hown (hts (.constantLong RX12 162 (2)) (by decide +kernel)) dX12_rule_11 ?_
  refine pureIS (As := [.long (Int32.toInt64 what), .long 0, .long 2]) (rest := []) F (c_in l (Int32.toInt64 what) 0 2) 3 gX12_rule_X12_in rfl (by decide +kernel) rfl rfl ⟨(Nat.le_of_ble_eq_true rfl), (Nat.le_of_ble_eq_true rfl)⟩ (Nat.le_of_ble_eq_true rfl) (Nat.le_of_ble_eq_true rfl) rfl hl.1 rfl (Nat.le_of_ble_eq_true rfl) dX12_rule_14 ?_
  refine lv_if_ne (tgt := 22) hx hb dX12_rule_17 (by decide) (fun c2 => ?_) (fun c2 => ?_)
  · refine lv_iload_n hx hb dX12_rule_22 rfl (lv_at hl 3 rfl) ?_
    refine lv_i2l hx hb dX12_rule_23 rfl ?_
    refine lv_iload_n hx hb dX12_rule_24 rfl (lv_at hl 2 rfl) ?_
    refine lv_iconst (v := 1) hx hb dX12_rule_25 (by decide) ?_
    refine lv_icmp_ne (tgt := 33) hx hb dX12_rule_26 (by decide) (fun c3 => ?_) (fun c3 => ?_)
    · refine lv_lconst (v := 0) hx hb dX12_rule_33 (by decide) ?_
      refine lv_iload_n hx hb dX12_rule_34 rfl (lv_at hl 2 rfl) ?_
      refine lv_if_ne (tgt := 44) hx hb dX12_rule_35 (by decide) (fun c4 => ?_) (fun c4 => ?_)
      · refine lv_iload_n hx hb dX12_rule_44 rfl (lv_at hl 2 rfl) ?_
        refine lv_iconst (v := 1) hx hb dX12_rule_45 (by decide) ?_
        refine lv_icmp_ne (tgt := 55) hx hb dX12_rule_46 (by decide) (fun _ => ?_) (fun cc0 => absurd cc0 c3)
        refine lv_ldc2 (v := 100) hx hb hown (hts (.constantLong RX12 187 (100)) (by decide +kernel)) dX12_rule_55 ?_
        refine pureIS (As := [.long (Int32.toInt64 v), .long 0, .long 100]) (rest := []) F (c_in l (Int32.toInt64 v) 0 100) 3 gX12_rule_X12_in rfl (by decide +kernel) rfl rfl ⟨(Nat.le_of_ble_eq_true rfl), (Nat.le_of_ble_eq_true rfl)⟩ (Nat.le_of_ble_eq_true rfl) (Nat.le_of_ble_eq_true rfl) rfl hl.1 rfl (Nat.le_of_ble_eq_true rfl) dX12_rule_58 ?_
        refine lv_if_ne (tgt := 67) hx hb dX12_rule_61 (by decide) (fun c5 => ?_) (fun c5 => ?_)
        · refine lv_iload_n hx hb dX12_rule_67 rfl (lv_at hl 2 rfl) ?_
          refine lv_if_ne (tgt := 80) hx hb dX12_rule_68 (by decide) (fun _ => ?_) (fun cc0 => absurd cc0 c4)
          refine lv_iload_n hx hb dX12_rule_80 rfl (lv_at hl 2 rfl) ?_
          refine lv_iconst (v := 1) hx hb dX12_rule_81 (by decide) ?_
          refine lv_icmp_ne (tgt := 94) hx hb dX12_rule_82 (by decide) (fun _ => ?_) (fun cc0 => absurd cc0 c3)
          refine lv_aload_n hx hb dX12_rule_94 rfl (lv_at hl 0 rfl) ?_
          refine va_get (D := g.1) (ci := 12) (v := .ref (q 16)) (C := RX12) (T := TX12) (N := 66) hx hb hts hg_X12_rule_X12 hown hK hP 3 rfl rfl 16 (by decide) (hts (.fieldLink RX12 46 "OilPushModel" "leaks" "[I") (by decide +kernel)) (fun _ h => h) rfl dX12_rule_95 ?_
          refine lv_iload_n hx hb dX12_rule_98 rfl (lv_at hl 1 rfl) ?_
          refine va_iald hx hb hK hP 2 0 rfl rfl (noCyl_in h7 c1).1 dX12_rule_99 ?_
          refine lv_istore (lv' := [(4, .int (a16 (cy.toNatClampNeg))), (0, .ref h0), (1, .int cy), (2, .int what), (3, .int v)]) hx hb dX12_rule_100 hl (by decide) rfl (fun ls hl => ?_)
          refine lv_aload_n hx hb dX12_rule_102 rfl (lv_at hl 1 rfl) ?_
          refine va_get (D := g.1) (ci := 12) (v := .ref (q 14)) (C := RX12) (T := TX12) (N := 66) hx hb hts hg_X12_rule_X12 hown hK hP 3 rfl rfl 14 (by decide) (hts (.fieldLink RX12 40 "OilPushModel" "crack" "[I") (by decide +kernel)) (fun _ h => h) rfl dX12_rule_103 ?_
          refine lv_iload_n hx hb dX12_rule_106 rfl (lv_at hl 2 rfl) ?_
          refine lv_iload_n hx hb dX12_rule_107 rfl (lv_at hl 3 rfl) ?_
          refine lv_if_ne (tgt := 115) hx hb dX12_rule_108 (by decide) (fun _ => ?_) (fun cc0 => absurd cc0 c4)
          refine lv_aload_n hx hb dX12_rule_115 rfl (lv_at hl 1 rfl) ?_
          refine va_get (D := g.1) (ci := 12) (v := .ref (q 14)) (C := RX12) (T := TX12) (N := 66) hx hb hts hg_X12_rule_X12 hown hK hP 3 rfl rfl 14 (by decide) (hts (.fieldLink RX12 40 "OilPushModel" "crack" "[I") (by decide +kernel)) (fun _ h => h) rfl dX12_rule_116 ?_
          refine lv_iload_n hx hb dX12_rule_119 rfl (lv_at hl 2 rfl) ?_
          refine va_iald hx hb hK hP 0 0 rfl rfl (noCyl_in h7 c1).1 dX12_rule_120 ?_
          refine va_iast hx hb hK hP hD hS 0 0 rfl rfl (noCyl_in h7 c1).1 dX12_rule_121 (fun H locs hP hD hS => ?_)
          have hP : va_P g.1 vwCl [((q 14), .inl (g.2 0, 6, .inl (upd a14 (cy.toNatClampNeg) (a14 (cy.toNatClampNeg))))), ((q 15), .inl (g.2 0, 6, .inl a15)), ((q 16), .inl (g.2 0, 6, .inl a16)), (h0, .inr (12, mO q i L))] H := hP
          have hD : va_D A [((q 14), .inl (g.2 0, 6, .inl (upd a14 (cy.toNatClampNeg) (a14 (cy.toNatClampNeg))))), ((q 15), .inl (g.2 0, 6, .inl a15)), ((q 16), .inl (g.2 0, 6, .inl a16)), (h0, .inr (12, mO q i L))] := hD
          refine lv_aload_n hx hb dX12_rule_122 rfl (lv_at hl 1 rfl) ?_
          refine va_get (D := g.1) (ci := 12) (v := .ref (q 15)) (C := RX12) (T := TX12) (N := 66) hx hb hts hg_X12_rule_X12 hown hK hP 3 rfl rfl 15 (by decide) (hts (.fieldLink RX12 43 "OilPushModel" "flow" "[I") (by decide +kernel)) (fun _ h => h) rfl dX12_rule_123 ?_
          refine lv_iload_n hx hb dX12_rule_126 rfl (lv_at hl 2 rfl) ?_
          refine lv_iload_n hx hb dX12_rule_127 rfl (lv_at hl 3 rfl) ?_
          refine lv_iconst (v := 1) hx hb dX12_rule_128 (by decide) ?_
          refine lv_icmp_ne (tgt := 136) hx hb dX12_rule_129 (by decide) (fun _ => ?_) (fun cc0 => absurd cc0 c3)
          refine lv_aload_n hx hb dX12_rule_136 rfl (lv_at hl 1 rfl) ?_
          refine va_get (D := g.1) (ci := 12) (v := .ref (q 15)) (C := RX12) (T := TX12) (N := 66) hx hb hts hg_X12_rule_X12 hown hK hP 3 rfl rfl 15 (by decide) (hts (.fieldLink RX12 43 "OilPushModel" "flow" "[I") (by decide +kernel)) (fun _ h => h) rfl dX12_rule_137 ?_
          refine lv_iload_n hx hb dX12_rule_140 rfl (lv_at hl 2 rfl) ?_
          refine va_iald hx hb hK hP 1 0 rfl rfl (noCyl_in h7 c1).1 dX12_rule_141 ?_
          refine va_iast hx hb hK hP hD hS 1 0 rfl rfl (noCyl_in h7 c1).1 dX12_rule_142 (fun H locs hP hD hS => ?_)
          have hP : va_P g.1 vwCl [((q 14), .inl (g.2 0, 6, .inl (upd a14 (cy.toNatClampNeg) (a14 (cy.toNatClampNeg))))), ((q 15), .inl (g.2 0, 6, .inl (upd a15 (cy.toNatClampNeg) (a15 (cy.toNatClampNeg))))), ((q 16), .inl (g.2 0, 6, .inl a16)), (h0, .inr (12, mO q i L))] H := hP
          have hD : va_D A [((q 14), .inl (g.2 0, 6, .inl (upd a14 (cy.toNatClampNeg) (a14 (cy.toNatClampNeg))))), ((q 15), .inl (g.2 0, 6, .inl (upd a15 (cy.toNatClampNeg) (a15 (cy.toNatClampNeg))))), ((q 16), .inl (g.2 0, 6, .inl a16)), (h0, .inr (12, mO q i L))] := hD
          refine lv_aload_n hx hb dX12_rule_143 rfl (lv_at hl 1 rfl) ?_
          refine va_get (D := g.1) (ci := 12) (v := .ref (q 16)) (C := RX12) (T := TX12) (N := 66) hx hb hts hg_X12_rule_X12 hown hK hP 3 rfl rfl 16 (by decide) (hts (.fieldLink RX12 46 "OilPushModel" "leaks" "[I") (by decide +kernel)) (fun _ h => h) rfl dX12_rule_144 ?_
          refine lv_iload_n hx hb dX12_rule_147 rfl (lv_at hl 2 rfl) ?_
          refine lv_iload_n hx hb dX12_rule_148 rfl (lv_at hl 3 rfl) ?_
          refine lv_iconst (v := 2) hx hb dX12_rule_149 (by decide) ?_
          refine lv_icmp_ne (tgt := 157) hx hb dX12_rule_150 (by decide) (fun c6 => ?_) (fun c6 => ?_)
          · refine lv_aload_n hx hb dX12_rule_157 rfl (lv_at hl 1 rfl) ?_
            refine va_get (D := g.1) (ci := 12) (v := .ref (q 16)) (C := RX12) (T := TX12) (N := 66) hx hb hts hg_X12_rule_X12 hown hK hP 3 rfl rfl 16 (by decide) (hts (.fieldLink RX12 46 "OilPushModel" "leaks" "[I") (by decide +kernel)) (fun _ h => h) rfl dX12_rule_158 ?_
            refine lv_iload_n hx hb dX12_rule_161 rfl (lv_at hl 2 rfl) ?_
            refine va_iald hx hb hK hP 2 0 rfl rfl (noCyl_in h7 c1).1 dX12_rule_162 ?_
            refine va_iast hx hb hK hP hD hS 2 0 rfl rfl (noCyl_in h7 c1).1 dX12_rule_163 (fun H locs hP hD hS => ?_)
            have hP : va_P g.1 vwCl [((q 14), .inl (g.2 0, 6, .inl (upd a14 (cy.toNatClampNeg) (a14 (cy.toNatClampNeg))))), ((q 15), .inl (g.2 0, 6, .inl (upd a15 (cy.toNatClampNeg) (a15 (cy.toNatClampNeg))))), ((q 16), .inl (g.2 0, 6, .inl (upd a16 (cy.toNatClampNeg) (a16 (cy.toNatClampNeg))))), (h0, .inr (12, mO q i L))] H := hP
            have hD : va_D A [((q 14), .inl (g.2 0, 6, .inl (upd a14 (cy.toNatClampNeg) (a14 (cy.toNatClampNeg))))), ((q 15), .inl (g.2 0, 6, .inl (upd a15 (cy.toNatClampNeg) (a15 (cy.toNatClampNeg))))), ((q 16), .inl (g.2 0, 6, .inl (upd a16 (cy.toNatClampNeg) (a16 (cy.toNatClampNeg))))), (h0, .inr (12, mO q i L))] := hD
            refine lv_iload hx hb dX12_rule_164 (lv_at hl 0 rfl) ?_
            have e90 : (o_g_rule_q14 i a14 cy what v) = (upd a14 (cy.toNatClampNeg) (a14 (cy.toNatClampNeg))) := by unfold o_g_rule_q14; rw [if_pos c1, if_neg c2, if_neg c3, if_neg c4, if_neg c5, if_neg c6]
            have e91 : (o_g_rule_q15 i a15 cy what v) = (upd a15 (cy.toNatClampNeg) (a15 (cy.toNatClampNeg))) := by unfold o_g_rule_q15; rw [if_pos c1, if_neg c2, if_neg c3, if_neg c4, if_neg c5, if_neg c6]
            have e92 : (o_g_rule_q16 i a16 cy what v) = (upd a16 (cy.toNatClampNeg) (a16 (cy.toNatClampNeg))) := by unfold o_g_rule_q16; rw [if_pos c1, if_neg c2, if_neg c3, if_neg c4, if_neg c5, if_neg c6]
            have hP : va_P g.1 vwCl [((q 14), .inl (g.2 0, 6, .inl (o_g_rule_q14 i a14 cy what v))), ((q 15), .inl (g.2 0, 6, .inl (o_g_rule_q15 i a15 cy what v))), ((q 16), .inl (g.2 0, 6, .inl (o_g_rule_q16 i a16 cy what v))), (h0, .inr (12, mO q i L))] H := by rw [e90, e91, e92]; exact hP
            have hD : va_D A [((q 14), .inl (g.2 0, 6, .inl (o_g_rule_q14 i a14 cy what v))), ((q 15), .inl (g.2 0, 6, .inl (o_g_rule_q15 i a15 cy what v))), ((q 16), .inl (g.2 0, 6, .inl (o_g_rule_q16 i a16 cy what v))), (h0, .inr (12, mO q i L))] := by rw [e90, e91, e92]; exact hD
            exact retI C hS () (by unfold r_g_rule; rw [if_pos c1, if_neg c2, if_neg c3, if_neg c4, if_neg c5, if_neg c6]) (hP.pick [3, 0, 1, 2] rfl) (hD.sub [3, 0, 1, 2] rfl rfl) (Nat.le_of_ble_eq_true rfl) (Nat.le_of_ble_eq_true rfl) dX12_rule_166
          refine lv_iload_n hx hb dX12_rule_153 rfl (lv_at hl 4 rfl) ?_
          refine lv_goto (tgt := 163) hx hb dX12_rule_154 (by decide) ?_
          refine va_iast hx hb hK hP hD hS 2 0 rfl rfl (noCyl_in h7 c1).1 dX12_rule_163 (fun H locs hP hD hS => ?_)
          have hP : va_P g.1 vwCl [((q 14), .inl (g.2 0, 6, .inl (upd a14 (cy.toNatClampNeg) (a14 (cy.toNatClampNeg))))), ((q 15), .inl (g.2 0, 6, .inl (upd a15 (cy.toNatClampNeg) (a15 (cy.toNatClampNeg))))), ((q 16), .inl (g.2 0, 6, .inl (upd a16 (cy.toNatClampNeg) v))), (h0, .inr (12, mO q i L))] H := hP
          have hD : va_D A [((q 14), .inl (g.2 0, 6, .inl (upd a14 (cy.toNatClampNeg) (a14 (cy.toNatClampNeg))))), ((q 15), .inl (g.2 0, 6, .inl (upd a15 (cy.toNatClampNeg) (a15 (cy.toNatClampNeg))))), ((q 16), .inl (g.2 0, 6, .inl (upd a16 (cy.toNatClampNeg) v))), (h0, .inr (12, mO q i L))] := hD
          refine lv_iload hx hb dX12_rule_164 (lv_at hl 0 rfl) ?_
          have e90 : (o_g_rule_q14 i a14 cy what v) = (upd a14 (cy.toNatClampNeg) (a14 (cy.toNatClampNeg))) := by unfold o_g_rule_q14; rw [if_pos c1, if_neg c2, if_neg c3, if_neg c4, if_neg c5, if_pos c6]
          have e91 : (o_g_rule_q15 i a15 cy what v) = (upd a15 (cy.toNatClampNeg) (a15 (cy.toNatClampNeg))) := by unfold o_g_rule_q15; rw [if_pos c1, if_neg c2, if_neg c3, if_neg c4, if_neg c5, if_pos c6]
          have e92 : (o_g_rule_q16 i a16 cy what v) = (upd a16 (cy.toNatClampNeg) v) := by unfold o_g_rule_q16; rw [if_pos c1, if_neg c2, if_neg c3, if_neg c4, if_neg c5, if_pos c6]
          have hP : va_P g.1 vwCl [((q 14), .inl (g.2 0, 6, .inl (o_g_rule_q14 i a14 cy what v))), ((q 15), .inl (g.2 0, 6, .inl (o_g_rule_q15 i a15 cy what v))), ((q 16), .inl (g.2 0, 6, .inl (o_g_rule_q16 i a16 cy what v))), (h0, .inr (12, mO q i L))] H := by rw [e90, e91, e92]; exact hP
          have hD : va_D A [((q 14), .inl (g.2 0, 6, .inl (o_g_rule_q14 i a14 cy what v))), ((q 15), .inl (g.2 0, 6, .inl (o_g_rule_q15 i a15 cy what v))), ((q 16), .inl (g.2 0, 6, .inl (o_g_rule_q16 i a16 cy what v))), (h0, .inr (12, mO q i L))] := by rw [e90, e91, e92]; exact hD
          exact retI C hS () (by unfold r_g_rule; rw [if_pos c1, if_neg c2, if_neg c3, if_neg c4, if_neg c5, if_pos c6]) (hP.pick [3, 0, 1, 2] rfl) (hD.sub [3, 0, 1, 2] rfl rfl) (Nat.le_of_ble_eq_true rfl) (Nat.le_of_ble_eq_true rfl) dX12_rule_166
        refine lv_bipush (v := -2) hx hb dX12_rule_64 (by decide) ?_
        have e90 : (o_g_rule_q14 i a14 cy what v) = a14 := by unfold o_g_rule_q14; rw [if_pos c1, if_neg c2, if_neg c3, if_neg c4, if_pos c5]
        have e91 : (o_g_rule_q15 i a15 cy what v) = a15 := by unfold o_g_rule_q15; rw [if_pos c1, if_neg c2, if_neg c3, if_neg c4, if_pos c5]
        have e92 : (o_g_rule_q16 i a16 cy what v) = a16 := by unfold o_g_rule_q16; rw [if_pos c1, if_neg c2, if_neg c3, if_neg c4, if_pos c5]
        have hP : va_P g.1 vwCl [((q 14), .inl (g.2 0, 6, .inl (o_g_rule_q14 i a14 cy what v))), ((q 15), .inl (g.2 0, 6, .inl (o_g_rule_q15 i a15 cy what v))), ((q 16), .inl (g.2 0, 6, .inl (o_g_rule_q16 i a16 cy what v))), (h0, .inr (12, mO q i L))] H := by rw [e90, e91, e92]; exact hP
        have hD : va_D A [((q 14), .inl (g.2 0, 6, .inl (o_g_rule_q14 i a14 cy what v))), ((q 15), .inl (g.2 0, 6, .inl (o_g_rule_q15 i a15 cy what v))), ((q 16), .inl (g.2 0, 6, .inl (o_g_rule_q16 i a16 cy what v))), (h0, .inr (12, mO q i L))] := by rw [e90, e91, e92]; exact hD
        exact retI C hS () (by unfold r_g_rule; rw [if_pos c1, if_neg c2, if_neg c3, if_neg c4, if_pos c5]) (hP.pick [3, 0, 1, 2] rfl) (hD.sub [3, 0, 1, 2] rfl rfl) (Nat.le_of_ble_eq_true rfl) (Nat.le_of_ble_eq_true rfl) dX12_rule_66
      refine lv_ldc2 (v := 500) hx hb hown (hts (.constantLong RX12 192 (500)) (by decide +kernel)) dX12_rule_38 ?_
      refine lv_goto (tgt := 58) hx hb dX12_rule_41 (by decide) ?_
      refine pureIS (As := [.long (Int32.toInt64 v), .long 0, .long 500]) (rest := []) F (c_in l (Int32.toInt64 v) 0 500) 3 gX12_rule_X12_in rfl (by decide +kernel) rfl rfl ⟨(Nat.le_of_ble_eq_true rfl), (Nat.le_of_ble_eq_true rfl)⟩ (Nat.le_of_ble_eq_true rfl) (Nat.le_of_ble_eq_true rfl) rfl hl.1 rfl (Nat.le_of_ble_eq_true rfl) dX12_rule_58 ?_
      refine lv_if_ne (tgt := 67) hx hb dX12_rule_61 (by decide) (fun c7 => ?_) (fun c7 => ?_)
      · refine lv_iload_n hx hb dX12_rule_67 rfl (lv_at hl 2 rfl) ?_
        refine lv_if_ne (tgt := 80) hx hb dX12_rule_68 (by decide) (fun cc0 => absurd c4 cc0) (fun _ => ?_)
        refine lv_aload_n hx hb dX12_rule_71 rfl (lv_at hl 0 rfl) ?_
        refine va_get (D := g.1) (ci := 12) (v := .ref (q 14)) (C := RX12) (T := TX12) (N := 66) hx hb hts hg_X12_rule_X12 hown hK hP 3 rfl rfl 14 (by decide) (hts (.fieldLink RX12 40 "OilPushModel" "crack" "[I") (by decide +kernel)) (fun _ h => h) rfl dX12_rule_72 ?_
        refine lv_iload_n hx hb dX12_rule_75 rfl (lv_at hl 1 rfl) ?_
        refine va_iald hx hb hK hP 0 0 rfl rfl (noCyl_in h7 c1).1 dX12_rule_76 ?_
        refine lv_goto (tgt := 100) hx hb dX12_rule_77 (by decide) ?_
        refine lv_istore (lv' := [(4, .int (a14 (cy.toNatClampNeg))), (0, .ref h0), (1, .int cy), (2, .int what), (3, .int v)]) hx hb dX12_rule_100 hl (by decide) rfl (fun ls hl => ?_)
        refine lv_aload_n hx hb dX12_rule_102 rfl (lv_at hl 1 rfl) ?_
        refine va_get (D := g.1) (ci := 12) (v := .ref (q 14)) (C := RX12) (T := TX12) (N := 66) hx hb hts hg_X12_rule_X12 hown hK hP 3 rfl rfl 14 (by decide) (hts (.fieldLink RX12 40 "OilPushModel" "crack" "[I") (by decide +kernel)) (fun _ h => h) rfl dX12_rule_103 ?_
        refine lv_iload_n hx hb dX12_rule_106 rfl (lv_at hl 2 rfl) ?_
        refine lv_iload_n hx hb dX12_rule_107 rfl (lv_at hl 3 rfl) ?_
        refine lv_if_ne (tgt := 115) hx hb dX12_rule_108 (by decide) (fun cc0 => absurd c4 cc0) (fun _ => ?_)
        refine lv_iload_n hx hb dX12_rule_111 rfl (lv_at hl 4 rfl) ?_
        refine lv_goto (tgt := 121) hx hb dX12_rule_112 (by decide) ?_
        refine va_iast hx hb hK hP hD hS 0 0 rfl rfl (noCyl_in h7 c1).1 dX12_rule_121 (fun H locs hP hD hS => ?_)
        have hP : va_P g.1 vwCl [((q 14), .inl (g.2 0, 6, .inl (upd a14 (cy.toNatClampNeg) v))), ((q 15), .inl (g.2 0, 6, .inl a15)), ((q 16), .inl (g.2 0, 6, .inl a16)), (h0, .inr (12, mO q i L))] H := hP
        have hD : va_D A [((q 14), .inl (g.2 0, 6, .inl (upd a14 (cy.toNatClampNeg) v))), ((q 15), .inl (g.2 0, 6, .inl a15)), ((q 16), .inl (g.2 0, 6, .inl a16)), (h0, .inr (12, mO q i L))] := hD
        refine lv_aload_n hx hb dX12_rule_122 rfl (lv_at hl 1 rfl) ?_
        refine va_get (D := g.1) (ci := 12) (v := .ref (q 15)) (C := RX12) (T := TX12) (N := 66) hx hb hts hg_X12_rule_X12 hown hK hP 3 rfl rfl 15 (by decide) (hts (.fieldLink RX12 43 "OilPushModel" "flow" "[I") (by decide +kernel)) (fun _ h => h) rfl dX12_rule_123 ?_
        refine lv_iload_n hx hb dX12_rule_126 rfl (lv_at hl 2 rfl) ?_
        refine lv_iload_n hx hb dX12_rule_127 rfl (lv_at hl 3 rfl) ?_
        refine lv_iconst (v := 1) hx hb dX12_rule_128 (by decide) ?_
        refine lv_icmp_ne (tgt := 136) hx hb dX12_rule_129 (by decide) (fun _ => ?_) (fun cc0 => absurd cc0 c3)
        refine lv_aload_n hx hb dX12_rule_136 rfl (lv_at hl 1 rfl) ?_
        refine va_get (D := g.1) (ci := 12) (v := .ref (q 15)) (C := RX12) (T := TX12) (N := 66) hx hb hts hg_X12_rule_X12 hown hK hP 3 rfl rfl 15 (by decide) (hts (.fieldLink RX12 43 "OilPushModel" "flow" "[I") (by decide +kernel)) (fun _ h => h) rfl dX12_rule_137 ?_
        refine lv_iload_n hx hb dX12_rule_140 rfl (lv_at hl 2 rfl) ?_
        refine va_iald hx hb hK hP 1 0 rfl rfl (noCyl_in h7 c1).1 dX12_rule_141 ?_
        refine va_iast hx hb hK hP hD hS 1 0 rfl rfl (noCyl_in h7 c1).1 dX12_rule_142 (fun H locs hP hD hS => ?_)
        have hP : va_P g.1 vwCl [((q 14), .inl (g.2 0, 6, .inl (upd a14 (cy.toNatClampNeg) v))), ((q 15), .inl (g.2 0, 6, .inl (upd a15 (cy.toNatClampNeg) (a15 (cy.toNatClampNeg))))), ((q 16), .inl (g.2 0, 6, .inl a16)), (h0, .inr (12, mO q i L))] H := hP
        have hD : va_D A [((q 14), .inl (g.2 0, 6, .inl (upd a14 (cy.toNatClampNeg) v))), ((q 15), .inl (g.2 0, 6, .inl (upd a15 (cy.toNatClampNeg) (a15 (cy.toNatClampNeg))))), ((q 16), .inl (g.2 0, 6, .inl a16)), (h0, .inr (12, mO q i L))] := hD
        refine lv_aload_n hx hb dX12_rule_143 rfl (lv_at hl 1 rfl) ?_
        refine va_get (D := g.1) (ci := 12) (v := .ref (q 16)) (C := RX12) (T := TX12) (N := 66) hx hb hts hg_X12_rule_X12 hown hK hP 3 rfl rfl 16 (by decide) (hts (.fieldLink RX12 46 "OilPushModel" "leaks" "[I") (by decide +kernel)) (fun _ h => h) rfl dX12_rule_144 ?_
        refine lv_iload_n hx hb dX12_rule_147 rfl (lv_at hl 2 rfl) ?_
        refine lv_iload_n hx hb dX12_rule_148 rfl (lv_at hl 3 rfl) ?_
        refine lv_iconst (v := 2) hx hb dX12_rule_149 (by decide) ?_
        refine lv_icmp_ne (tgt := 157) hx hb dX12_rule_150 (by decide) (fun c8 => ?_) (fun c8 => ?_)
        · refine lv_aload_n hx hb dX12_rule_157 rfl (lv_at hl 1 rfl) ?_
          refine va_get (D := g.1) (ci := 12) (v := .ref (q 16)) (C := RX12) (T := TX12) (N := 66) hx hb hts hg_X12_rule_X12 hown hK hP 3 rfl rfl 16 (by decide) (hts (.fieldLink RX12 46 "OilPushModel" "leaks" "[I") (by decide +kernel)) (fun _ h => h) rfl dX12_rule_158 ?_
          refine lv_iload_n hx hb dX12_rule_161 rfl (lv_at hl 2 rfl) ?_
          refine va_iald hx hb hK hP 2 0 rfl rfl (noCyl_in h7 c1).1 dX12_rule_162 ?_
          refine va_iast hx hb hK hP hD hS 2 0 rfl rfl (noCyl_in h7 c1).1 dX12_rule_163 (fun H locs hP hD hS => ?_)
          have hP : va_P g.1 vwCl [((q 14), .inl (g.2 0, 6, .inl (upd a14 (cy.toNatClampNeg) v))), ((q 15), .inl (g.2 0, 6, .inl (upd a15 (cy.toNatClampNeg) (a15 (cy.toNatClampNeg))))), ((q 16), .inl (g.2 0, 6, .inl (upd a16 (cy.toNatClampNeg) (a16 (cy.toNatClampNeg))))), (h0, .inr (12, mO q i L))] H := hP
          have hD : va_D A [((q 14), .inl (g.2 0, 6, .inl (upd a14 (cy.toNatClampNeg) v))), ((q 15), .inl (g.2 0, 6, .inl (upd a15 (cy.toNatClampNeg) (a15 (cy.toNatClampNeg))))), ((q 16), .inl (g.2 0, 6, .inl (upd a16 (cy.toNatClampNeg) (a16 (cy.toNatClampNeg))))), (h0, .inr (12, mO q i L))] := hD
          refine lv_iload hx hb dX12_rule_164 (lv_at hl 0 rfl) ?_
          have e90 : (o_g_rule_q14 i a14 cy what v) = (upd a14 (cy.toNatClampNeg) v) := by unfold o_g_rule_q14; rw [if_pos c1, if_neg c2, if_neg c3, if_pos c4, if_neg c7, if_neg c8]
          have e91 : (o_g_rule_q15 i a15 cy what v) = (upd a15 (cy.toNatClampNeg) (a15 (cy.toNatClampNeg))) := by unfold o_g_rule_q15; rw [if_pos c1, if_neg c2, if_neg c3, if_pos c4, if_neg c7, if_neg c8]
          have e92 : (o_g_rule_q16 i a16 cy what v) = (upd a16 (cy.toNatClampNeg) (a16 (cy.toNatClampNeg))) := by unfold o_g_rule_q16; rw [if_pos c1, if_neg c2, if_neg c3, if_pos c4, if_neg c7, if_neg c8]
          have hP : va_P g.1 vwCl [((q 14), .inl (g.2 0, 6, .inl (o_g_rule_q14 i a14 cy what v))), ((q 15), .inl (g.2 0, 6, .inl (o_g_rule_q15 i a15 cy what v))), ((q 16), .inl (g.2 0, 6, .inl (o_g_rule_q16 i a16 cy what v))), (h0, .inr (12, mO q i L))] H := by rw [e90, e91, e92]; exact hP
          have hD : va_D A [((q 14), .inl (g.2 0, 6, .inl (o_g_rule_q14 i a14 cy what v))), ((q 15), .inl (g.2 0, 6, .inl (o_g_rule_q15 i a15 cy what v))), ((q 16), .inl (g.2 0, 6, .inl (o_g_rule_q16 i a16 cy what v))), (h0, .inr (12, mO q i L))] := by rw [e90, e91, e92]; exact hD
          exact retI C hS () (by unfold r_g_rule; rw [if_pos c1, if_neg c2, if_neg c3, if_pos c4, if_neg c7, if_neg c8]) (hP.pick [3, 0, 1, 2] rfl) (hD.sub [3, 0, 1, 2] rfl rfl) (Nat.le_of_ble_eq_true rfl) (Nat.le_of_ble_eq_true rfl) dX12_rule_166
        refine lv_iload_n hx hb dX12_rule_153 rfl (lv_at hl 4 rfl) ?_
        refine lv_goto (tgt := 163) hx hb dX12_rule_154 (by decide) ?_
        refine va_iast hx hb hK hP hD hS 2 0 rfl rfl (noCyl_in h7 c1).1 dX12_rule_163 (fun H locs hP hD hS => ?_)
        have hP : va_P g.1 vwCl [((q 14), .inl (g.2 0, 6, .inl (upd a14 (cy.toNatClampNeg) v))), ((q 15), .inl (g.2 0, 6, .inl (upd a15 (cy.toNatClampNeg) (a15 (cy.toNatClampNeg))))), ((q 16), .inl (g.2 0, 6, .inl (upd a16 (cy.toNatClampNeg) v))), (h0, .inr (12, mO q i L))] H := hP
        have hD : va_D A [((q 14), .inl (g.2 0, 6, .inl (upd a14 (cy.toNatClampNeg) v))), ((q 15), .inl (g.2 0, 6, .inl (upd a15 (cy.toNatClampNeg) (a15 (cy.toNatClampNeg))))), ((q 16), .inl (g.2 0, 6, .inl (upd a16 (cy.toNatClampNeg) v))), (h0, .inr (12, mO q i L))] := hD
        refine lv_iload hx hb dX12_rule_164 (lv_at hl 0 rfl) ?_
        have e90 : (o_g_rule_q14 i a14 cy what v) = (upd a14 (cy.toNatClampNeg) v) := by unfold o_g_rule_q14; rw [if_pos c1, if_neg c2, if_neg c3, if_pos c4, if_neg c7, if_pos c8]
        have e91 : (o_g_rule_q15 i a15 cy what v) = (upd a15 (cy.toNatClampNeg) (a15 (cy.toNatClampNeg))) := by unfold o_g_rule_q15; rw [if_pos c1, if_neg c2, if_neg c3, if_pos c4, if_neg c7, if_pos c8]
        have e92 : (o_g_rule_q16 i a16 cy what v) = (upd a16 (cy.toNatClampNeg) v) := by unfold o_g_rule_q16; rw [if_pos c1, if_neg c2, if_neg c3, if_pos c4, if_neg c7, if_pos c8]
        have hP : va_P g.1 vwCl [((q 14), .inl (g.2 0, 6, .inl (o_g_rule_q14 i a14 cy what v))), ((q 15), .inl (g.2 0, 6, .inl (o_g_rule_q15 i a15 cy what v))), ((q 16), .inl (g.2 0, 6, .inl (o_g_rule_q16 i a16 cy what v))), (h0, .inr (12, mO q i L))] H := by rw [e90, e91, e92]; exact hP
        have hD : va_D A [((q 14), .inl (g.2 0, 6, .inl (o_g_rule_q14 i a14 cy what v))), ((q 15), .inl (g.2 0, 6, .inl (o_g_rule_q15 i a15 cy what v))), ((q 16), .inl (g.2 0, 6, .inl (o_g_rule_q16 i a16 cy what v))), (h0, .inr (12, mO q i L))] := by rw [e90, e91, e92]; exact hD
        exact retI C hS () (by unfold r_g_rule; rw [if_pos c1, if_neg c2, if_neg c3, if_pos c4, if_neg c7, if_pos c8]) (hP.pick [3, 0, 1, 2] rfl) (hD.sub [3, 0, 1, 2] rfl rfl) (Nat.le_of_ble_eq_true rfl) (Nat.le_of_ble_eq_true rfl) dX12_rule_166
      refine lv_bipush (v := -2) hx hb dX12_rule_64 (by decide) ?_
      have e90 : (o_g_rule_q14 i a14 cy what v) = a14 := by unfold o_g_rule_q14; rw [if_pos c1, if_neg c2, if_neg c3, if_pos c4, if_pos c7]
      have e91 : (o_g_rule_q15 i a15 cy what v) = a15 := by unfold o_g_rule_q15; rw [if_pos c1, if_neg c2, if_neg c3, if_pos c4, if_pos c7]
      have e92 : (o_g_rule_q16 i a16 cy what v) = a16 := by unfold o_g_rule_q16; rw [if_pos c1, if_neg c2, if_neg c3, if_pos c4, if_pos c7]
      have hP : va_P g.1 vwCl [((q 14), .inl (g.2 0, 6, .inl (o_g_rule_q14 i a14 cy what v))), ((q 15), .inl (g.2 0, 6, .inl (o_g_rule_q15 i a15 cy what v))), ((q 16), .inl (g.2 0, 6, .inl (o_g_rule_q16 i a16 cy what v))), (h0, .inr (12, mO q i L))] H := by rw [e90, e91, e92]; exact hP
      have hD : va_D A [((q 14), .inl (g.2 0, 6, .inl (o_g_rule_q14 i a14 cy what v))), ((q 15), .inl (g.2 0, 6, .inl (o_g_rule_q15 i a15 cy what v))), ((q 16), .inl (g.2 0, 6, .inl (o_g_rule_q16 i a16 cy what v))), (h0, .inr (12, mO q i L))] := by rw [e90, e91, e92]; exact hD
      exact retI C hS () (by unfold r_g_rule; rw [if_pos c1, if_neg c2, if_neg c3, if_pos c4, if_pos c7]) (hP.pick [3, 0, 1, 2] rfl) (hD.sub [3, 0, 1, 2] rfl rfl) (Nat.le_of_ble_eq_true rfl) (Nat.le_of_ble_eq_true rfl) dX12_rule_66
    refine lv_lconst (v := 1) hx hb dX12_rule_29 (by decide) ?_
    refine lv_goto (tgt := 34) hx hb dX12_rule_30 (by decide) ?_
    refine lv_iload_n hx hb dX12_rule_34 rfl (lv_at hl 2 rfl) ?_
    refine lv_if_ne (tgt := 44) hx hb dX12_rule_35 (by decide) (fun c9 => ?_) (fun c9 => ?_)
    · refine lv_iload_n hx hb dX12_rule_44 rfl (lv_at hl 2 rfl) ?_
      refine lv_iconst (v := 1) hx hb dX12_rule_45 (by decide) ?_
      refine lv_icmp_ne (tgt := 55) hx hb dX12_rule_46 (by decide) (fun cc0 => absurd c3 cc0) (fun _ => ?_)
      refine lv_ldc2 (v := 1000) hx hb hown (hts (.constantLong RX12 182 (1000)) (by decide +kernel)) dX12_rule_49 ?_
      refine lv_goto (tgt := 58) hx hb dX12_rule_52 (by decide) ?_
      refine pureIS (As := [.long (Int32.toInt64 v), .long 1, .long 1000]) (rest := []) F (c_in l (Int32.toInt64 v) 1 1000) 3 gX12_rule_X12_in rfl (by decide +kernel) rfl rfl ⟨(Nat.le_of_ble_eq_true rfl), (Nat.le_of_ble_eq_true rfl)⟩ (Nat.le_of_ble_eq_true rfl) (Nat.le_of_ble_eq_true rfl) rfl hl.1 rfl (Nat.le_of_ble_eq_true rfl) dX12_rule_58 ?_
      refine lv_if_ne (tgt := 67) hx hb dX12_rule_61 (by decide) (fun c10 => ?_) (fun c10 => ?_)
      · refine lv_iload_n hx hb dX12_rule_67 rfl (lv_at hl 2 rfl) ?_
        refine lv_if_ne (tgt := 80) hx hb dX12_rule_68 (by decide) (fun _ => ?_) (fun cc0 => absurd cc0 c9)
        refine lv_iload_n hx hb dX12_rule_80 rfl (lv_at hl 2 rfl) ?_
        refine lv_iconst (v := 1) hx hb dX12_rule_81 (by decide) ?_
        refine lv_icmp_ne (tgt := 94) hx hb dX12_rule_82 (by decide) (fun cc0 => absurd c3 cc0) (fun _ => ?_)
        refine lv_aload_n hx hb dX12_rule_85 rfl (lv_at hl 0 rfl) ?_
        refine va_get (D := g.1) (ci := 12) (v := .ref (q 15)) (C := RX12) (T := TX12) (N := 66) hx hb hts hg_X12_rule_X12 hown hK hP 3 rfl rfl 15 (by decide) (hts (.fieldLink RX12 43 "OilPushModel" "flow" "[I") (by decide +kernel)) (fun _ h => h) rfl dX12_rule_86 ?_
        refine lv_iload_n hx hb dX12_rule_89 rfl (lv_at hl 1 rfl) ?_
        refine va_iald hx hb hK hP 1 0 rfl rfl (noCyl_in h7 c1).1 dX12_rule_90 ?_
        refine lv_goto (tgt := 100) hx hb dX12_rule_91 (by decide) ?_
        refine lv_istore (lv' := [(4, .int (a15 (cy.toNatClampNeg))), (0, .ref h0), (1, .int cy), (2, .int what), (3, .int v)]) hx hb dX12_rule_100 hl (by decide) rfl (fun ls hl => ?_)
        refine lv_aload_n hx hb dX12_rule_102 rfl (lv_at hl 1 rfl) ?_
        refine va_get (D := g.1) (ci := 12) (v := .ref (q 14)) (C := RX12) (T := TX12) (N := 66) hx hb hts hg_X12_rule_X12 hown hK hP 3 rfl rfl 14 (by decide) (hts (.fieldLink RX12 40 "OilPushModel" "crack" "[I") (by decide +kernel)) (fun _ h => h) rfl dX12_rule_103 ?_
        refine lv_iload_n hx hb dX12_rule_106 rfl (lv_at hl 2 rfl) ?_
        refine lv_iload_n hx hb dX12_rule_107 rfl (lv_at hl 3 rfl) ?_
        refine lv_if_ne (tgt := 115) hx hb dX12_rule_108 (by decide) (fun _ => ?_) (fun cc0 => absurd cc0 c9)
        refine lv_aload_n hx hb dX12_rule_115 rfl (lv_at hl 1 rfl) ?_
        refine va_get (D := g.1) (ci := 12) (v := .ref (q 14)) (C := RX12) (T := TX12) (N := 66) hx hb hts hg_X12_rule_X12 hown hK hP 3 rfl rfl 14 (by decide) (hts (.fieldLink RX12 40 "OilPushModel" "crack" "[I") (by decide +kernel)) (fun _ h => h) rfl dX12_rule_116 ?_
        refine lv_iload_n hx hb dX12_rule_119 rfl (lv_at hl 2 rfl) ?_
        refine va_iald hx hb hK hP 0 0 rfl rfl (noCyl_in h7 c1).1 dX12_rule_120 ?_
        refine va_iast hx hb hK hP hD hS 0 0 rfl rfl (noCyl_in h7 c1).1 dX12_rule_121 (fun H locs hP hD hS => ?_)
        have hP : va_P g.1 vwCl [((q 14), .inl (g.2 0, 6, .inl (upd a14 (cy.toNatClampNeg) (a14 (cy.toNatClampNeg))))), ((q 15), .inl (g.2 0, 6, .inl a15)), ((q 16), .inl (g.2 0, 6, .inl a16)), (h0, .inr (12, mO q i L))] H := hP
        have hD : va_D A [((q 14), .inl (g.2 0, 6, .inl (upd a14 (cy.toNatClampNeg) (a14 (cy.toNatClampNeg))))), ((q 15), .inl (g.2 0, 6, .inl a15)), ((q 16), .inl (g.2 0, 6, .inl a16)), (h0, .inr (12, mO q i L))] := hD
        refine lv_aload_n hx hb dX12_rule_122 rfl (lv_at hl 1 rfl) ?_
        refine va_get (D := g.1) (ci := 12) (v := .ref (q 15)) (C := RX12) (T := TX12) (N := 66) hx hb hts hg_X12_rule_X12 hown hK hP 3 rfl rfl 15 (by decide) (hts (.fieldLink RX12 43 "OilPushModel" "flow" "[I") (by decide +kernel)) (fun _ h => h) rfl dX12_rule_123 ?_
        refine lv_iload_n hx hb dX12_rule_126 rfl (lv_at hl 2 rfl) ?_
        refine lv_iload_n hx hb dX12_rule_127 rfl (lv_at hl 3 rfl) ?_
        refine lv_iconst (v := 1) hx hb dX12_rule_128 (by decide) ?_
        refine lv_icmp_ne (tgt := 136) hx hb dX12_rule_129 (by decide) (fun cc0 => absurd c3 cc0) (fun _ => ?_)
        refine lv_iload_n hx hb dX12_rule_132 rfl (lv_at hl 4 rfl) ?_
        refine lv_goto (tgt := 142) hx hb dX12_rule_133 (by decide) ?_
        refine va_iast hx hb hK hP hD hS 1 0 rfl rfl (noCyl_in h7 c1).1 dX12_rule_142 (fun H locs hP hD hS => ?_)
        have hP : va_P g.1 vwCl [((q 14), .inl (g.2 0, 6, .inl (upd a14 (cy.toNatClampNeg) (a14 (cy.toNatClampNeg))))), ((q 15), .inl (g.2 0, 6, .inl (upd a15 (cy.toNatClampNeg) v))), ((q 16), .inl (g.2 0, 6, .inl a16)), (h0, .inr (12, mO q i L))] H := hP
        have hD : va_D A [((q 14), .inl (g.2 0, 6, .inl (upd a14 (cy.toNatClampNeg) (a14 (cy.toNatClampNeg))))), ((q 15), .inl (g.2 0, 6, .inl (upd a15 (cy.toNatClampNeg) v))), ((q 16), .inl (g.2 0, 6, .inl a16)), (h0, .inr (12, mO q i L))] := hD
        refine lv_aload_n hx hb dX12_rule_143 rfl (lv_at hl 1 rfl) ?_
        refine va_get (D := g.1) (ci := 12) (v := .ref (q 16)) (C := RX12) (T := TX12) (N := 66) hx hb hts hg_X12_rule_X12 hown hK hP 3 rfl rfl 16 (by decide) (hts (.fieldLink RX12 46 "OilPushModel" "leaks" "[I") (by decide +kernel)) (fun _ h => h) rfl dX12_rule_144 ?_
        refine lv_iload_n hx hb dX12_rule_147 rfl (lv_at hl 2 rfl) ?_
        refine lv_iload_n hx hb dX12_rule_148 rfl (lv_at hl 3 rfl) ?_
        refine lv_iconst (v := 2) hx hb dX12_rule_149 (by decide) ?_
        refine lv_icmp_ne (tgt := 157) hx hb dX12_rule_150 (by decide) (fun c11 => ?_) (fun c11 => ?_)
        · refine lv_aload_n hx hb dX12_rule_157 rfl (lv_at hl 1 rfl) ?_
          refine va_get (D := g.1) (ci := 12) (v := .ref (q 16)) (C := RX12) (T := TX12) (N := 66) hx hb hts hg_X12_rule_X12 hown hK hP 3 rfl rfl 16 (by decide) (hts (.fieldLink RX12 46 "OilPushModel" "leaks" "[I") (by decide +kernel)) (fun _ h => h) rfl dX12_rule_158 ?_
          refine lv_iload_n hx hb dX12_rule_161 rfl (lv_at hl 2 rfl) ?_
          refine va_iald hx hb hK hP 2 0 rfl rfl (noCyl_in h7 c1).1 dX12_rule_162 ?_
          refine va_iast hx hb hK hP hD hS 2 0 rfl rfl (noCyl_in h7 c1).1 dX12_rule_163 (fun H locs hP hD hS => ?_)
          have hP : va_P g.1 vwCl [((q 14), .inl (g.2 0, 6, .inl (upd a14 (cy.toNatClampNeg) (a14 (cy.toNatClampNeg))))), ((q 15), .inl (g.2 0, 6, .inl (upd a15 (cy.toNatClampNeg) v))), ((q 16), .inl (g.2 0, 6, .inl (upd a16 (cy.toNatClampNeg) (a16 (cy.toNatClampNeg))))), (h0, .inr (12, mO q i L))] H := hP
          have hD : va_D A [((q 14), .inl (g.2 0, 6, .inl (upd a14 (cy.toNatClampNeg) (a14 (cy.toNatClampNeg))))), ((q 15), .inl (g.2 0, 6, .inl (upd a15 (cy.toNatClampNeg) v))), ((q 16), .inl (g.2 0, 6, .inl (upd a16 (cy.toNatClampNeg) (a16 (cy.toNatClampNeg))))), (h0, .inr (12, mO q i L))] := hD
          refine lv_iload hx hb dX12_rule_164 (lv_at hl 0 rfl) ?_
          have e90 : (o_g_rule_q14 i a14 cy what v) = (upd a14 (cy.toNatClampNeg) (a14 (cy.toNatClampNeg))) := by unfold o_g_rule_q14; rw [if_pos c1, if_neg c2, if_pos c3, if_neg c9, if_neg c10, if_neg c11]
          have e91 : (o_g_rule_q15 i a15 cy what v) = (upd a15 (cy.toNatClampNeg) v) := by unfold o_g_rule_q15; rw [if_pos c1, if_neg c2, if_pos c3, if_neg c9, if_neg c10, if_neg c11]
          have e92 : (o_g_rule_q16 i a16 cy what v) = (upd a16 (cy.toNatClampNeg) (a16 (cy.toNatClampNeg))) := by unfold o_g_rule_q16; rw [if_pos c1, if_neg c2, if_pos c3, if_neg c9, if_neg c10, if_neg c11]
          have hP : va_P g.1 vwCl [((q 14), .inl (g.2 0, 6, .inl (o_g_rule_q14 i a14 cy what v))), ((q 15), .inl (g.2 0, 6, .inl (o_g_rule_q15 i a15 cy what v))), ((q 16), .inl (g.2 0, 6, .inl (o_g_rule_q16 i a16 cy what v))), (h0, .inr (12, mO q i L))] H := by rw [e90, e91, e92]; exact hP
          have hD : va_D A [((q 14), .inl (g.2 0, 6, .inl (o_g_rule_q14 i a14 cy what v))), ((q 15), .inl (g.2 0, 6, .inl (o_g_rule_q15 i a15 cy what v))), ((q 16), .inl (g.2 0, 6, .inl (o_g_rule_q16 i a16 cy what v))), (h0, .inr (12, mO q i L))] := by rw [e90, e91, e92]; exact hD
          exact retI C hS () (by unfold r_g_rule; rw [if_pos c1, if_neg c2, if_pos c3, if_neg c9, if_neg c10, if_neg c11]) (hP.pick [3, 0, 1, 2] rfl) (hD.sub [3, 0, 1, 2] rfl rfl) (Nat.le_of_ble_eq_true rfl) (Nat.le_of_ble_eq_true rfl) dX12_rule_166
        refine lv_iload_n hx hb dX12_rule_153 rfl (lv_at hl 4 rfl) ?_
        refine lv_goto (tgt := 163) hx hb dX12_rule_154 (by decide) ?_
        refine va_iast hx hb hK hP hD hS 2 0 rfl rfl (noCyl_in h7 c1).1 dX12_rule_163 (fun H locs hP hD hS => ?_)
        have hP : va_P g.1 vwCl [((q 14), .inl (g.2 0, 6, .inl (upd a14 (cy.toNatClampNeg) (a14 (cy.toNatClampNeg))))), ((q 15), .inl (g.2 0, 6, .inl (upd a15 (cy.toNatClampNeg) v))), ((q 16), .inl (g.2 0, 6, .inl (upd a16 (cy.toNatClampNeg) v))), (h0, .inr (12, mO q i L))] H := hP
        have hD : va_D A [((q 14), .inl (g.2 0, 6, .inl (upd a14 (cy.toNatClampNeg) (a14 (cy.toNatClampNeg))))), ((q 15), .inl (g.2 0, 6, .inl (upd a15 (cy.toNatClampNeg) v))), ((q 16), .inl (g.2 0, 6, .inl (upd a16 (cy.toNatClampNeg) v))), (h0, .inr (12, mO q i L))] := hD
        refine lv_iload hx hb dX12_rule_164 (lv_at hl 0 rfl) ?_
        have e90 : (o_g_rule_q14 i a14 cy what v) = (upd a14 (cy.toNatClampNeg) (a14 (cy.toNatClampNeg))) := by unfold o_g_rule_q14; rw [if_pos c1, if_neg c2, if_pos c3, if_neg c9, if_neg c10, if_pos c11]
        have e91 : (o_g_rule_q15 i a15 cy what v) = (upd a15 (cy.toNatClampNeg) v) := by unfold o_g_rule_q15; rw [if_pos c1, if_neg c2, if_pos c3, if_neg c9, if_neg c10, if_pos c11]
        have e92 : (o_g_rule_q16 i a16 cy what v) = (upd a16 (cy.toNatClampNeg) v) := by unfold o_g_rule_q16; rw [if_pos c1, if_neg c2, if_pos c3, if_neg c9, if_neg c10, if_pos c11]
        have hP : va_P g.1 vwCl [((q 14), .inl (g.2 0, 6, .inl (o_g_rule_q14 i a14 cy what v))), ((q 15), .inl (g.2 0, 6, .inl (o_g_rule_q15 i a15 cy what v))), ((q 16), .inl (g.2 0, 6, .inl (o_g_rule_q16 i a16 cy what v))), (h0, .inr (12, mO q i L))] H := by rw [e90, e91, e92]; exact hP
        have hD : va_D A [((q 14), .inl (g.2 0, 6, .inl (o_g_rule_q14 i a14 cy what v))), ((q 15), .inl (g.2 0, 6, .inl (o_g_rule_q15 i a15 cy what v))), ((q 16), .inl (g.2 0, 6, .inl (o_g_rule_q16 i a16 cy what v))), (h0, .inr (12, mO q i L))] := by rw [e90, e91, e92]; exact hD
        exact retI C hS () (by unfold r_g_rule; rw [if_pos c1, if_neg c2, if_pos c3, if_neg c9, if_neg c10, if_pos c11]) (hP.pick [3, 0, 1, 2] rfl) (hD.sub [3, 0, 1, 2] rfl rfl) (Nat.le_of_ble_eq_true rfl) (Nat.le_of_ble_eq_true rfl) dX12_rule_166
      refine lv_bipush (v := -2) hx hb dX12_rule_64 (by decide) ?_
      have e90 : (o_g_rule_q14 i a14 cy what v) = a14 := by unfold o_g_rule_q14; rw [if_pos c1, if_neg c2, if_pos c3, if_neg c9, if_pos c10]
      have e91 : (o_g_rule_q15 i a15 cy what v) = a15 := by unfold o_g_rule_q15; rw [if_pos c1, if_neg c2, if_pos c3, if_neg c9, if_pos c10]
      have e92 : (o_g_rule_q16 i a16 cy what v) = a16 := by unfold o_g_rule_q16; rw [if_pos c1, if_neg c2, if_pos c3, if_neg c9, if_pos c10]
      have hP : va_P g.1 vwCl [((q 14), .inl (g.2 0, 6, .inl (o_g_rule_q14 i a14 cy what v))), ((q 15), .inl (g.2 0, 6, .inl (o_g_rule_q15 i a15 cy what v))), ((q 16), .inl (g.2 0, 6, .inl (o_g_rule_q16 i a16 cy what v))), (h0, .inr (12, mO q i L))] H := by rw [e90, e91, e92]; exact hP
      have hD : va_D A [((q 14), .inl (g.2 0, 6, .inl (o_g_rule_q14 i a14 cy what v))), ((q 15), .inl (g.2 0, 6, .inl (o_g_rule_q15 i a15 cy what v))), ((q 16), .inl (g.2 0, 6, .inl (o_g_rule_q16 i a16 cy what v))), (h0, .inr (12, mO q i L))] := by rw [e90, e91, e92]; exact hD
      exact retI C hS () (by unfold r_g_rule; rw [if_pos c1, if_neg c2, if_pos c3, if_neg c9, if_pos c10]) (hP.pick [3, 0, 1, 2] rfl) (hD.sub [3, 0, 1, 2] rfl rfl) (Nat.le_of_ble_eq_true rfl) (Nat.le_of_ble_eq_true rfl) dX12_rule_66
    refine lv_ldc2 (v := 500) hx hb hown (hts (.constantLong RX12 192 (500)) (by decide +kernel)) dX12_rule_38 ?_
    refine lv_goto (tgt := 58) hx hb dX12_rule_41 (by decide) ?_
    refine pureIS (As := [.long (Int32.toInt64 v), .long 1, .long 500]) (rest := []) F (c_in l (Int32.toInt64 v) 1 500) 3 gX12_rule_X12_in rfl (by decide +kernel) rfl rfl ⟨(Nat.le_of_ble_eq_true rfl), (Nat.le_of_ble_eq_true rfl)⟩ (Nat.le_of_ble_eq_true rfl) (Nat.le_of_ble_eq_true rfl) rfl hl.1 rfl (Nat.le_of_ble_eq_true rfl) dX12_rule_58 ?_
    refine lv_if_ne (tgt := 67) hx hb dX12_rule_61 (by decide) (fun c12 => ?_) (fun c12 => ?_)
    · refine lv_iload_n hx hb dX12_rule_67 rfl (lv_at hl 2 rfl) ?_
      refine lv_if_ne (tgt := 80) hx hb dX12_rule_68 (by decide) (fun cc0 => absurd c9 cc0) (fun _ => ?_)
      refine lv_aload_n hx hb dX12_rule_71 rfl (lv_at hl 0 rfl) ?_
      refine va_get (D := g.1) (ci := 12) (v := .ref (q 14)) (C := RX12) (T := TX12) (N := 66) hx hb hts hg_X12_rule_X12 hown hK hP 3 rfl rfl 14 (by decide) (hts (.fieldLink RX12 40 "OilPushModel" "crack" "[I") (by decide +kernel)) (fun _ h => h) rfl dX12_rule_72 ?_
      refine lv_iload_n hx hb dX12_rule_75 rfl (lv_at hl 1 rfl) ?_
      refine va_iald hx hb hK hP 0 0 rfl rfl (noCyl_in h7 c1).1 dX12_rule_76 ?_
      refine lv_goto (tgt := 100) hx hb dX12_rule_77 (by decide) ?_
      refine lv_istore (lv' := [(4, .int (a14 (cy.toNatClampNeg))), (0, .ref h0), (1, .int cy), (2, .int what), (3, .int v)]) hx hb dX12_rule_100 hl (by decide) rfl (fun ls hl => ?_)
      refine lv_aload_n hx hb dX12_rule_102 rfl (lv_at hl 1 rfl) ?_
      refine va_get (D := g.1) (ci := 12) (v := .ref (q 14)) (C := RX12) (T := TX12) (N := 66) hx hb hts hg_X12_rule_X12 hown hK hP 3 rfl rfl 14 (by decide) (hts (.fieldLink RX12 40 "OilPushModel" "crack" "[I") (by decide +kernel)) (fun _ h => h) rfl dX12_rule_103 ?_
      refine lv_iload_n hx hb dX12_rule_106 rfl (lv_at hl 2 rfl) ?_
      refine lv_iload_n hx hb dX12_rule_107 rfl (lv_at hl 3 rfl) ?_
      refine lv_if_ne (tgt := 115) hx hb dX12_rule_108 (by decide) (fun cc0 => absurd c9 cc0) (fun _ => ?_)
      refine lv_iload_n hx hb dX12_rule_111 rfl (lv_at hl 4 rfl) ?_
      refine lv_goto (tgt := 121) hx hb dX12_rule_112 (by decide) ?_
      refine va_iast hx hb hK hP hD hS 0 0 rfl rfl (noCyl_in h7 c1).1 dX12_rule_121 (fun H locs hP hD hS => ?_)
      have hP : va_P g.1 vwCl [((q 14), .inl (g.2 0, 6, .inl (upd a14 (cy.toNatClampNeg) v))), ((q 15), .inl (g.2 0, 6, .inl a15)), ((q 16), .inl (g.2 0, 6, .inl a16)), (h0, .inr (12, mO q i L))] H := hP
      have hD : va_D A [((q 14), .inl (g.2 0, 6, .inl (upd a14 (cy.toNatClampNeg) v))), ((q 15), .inl (g.2 0, 6, .inl a15)), ((q 16), .inl (g.2 0, 6, .inl a16)), (h0, .inr (12, mO q i L))] := hD
      refine lv_aload_n hx hb dX12_rule_122 rfl (lv_at hl 1 rfl) ?_
      refine va_get (D := g.1) (ci := 12) (v := .ref (q 15)) (C := RX12) (T := TX12) (N := 66) hx hb hts hg_X12_rule_X12 hown hK hP 3 rfl rfl 15 (by decide) (hts (.fieldLink RX12 43 "OilPushModel" "flow" "[I") (by decide +kernel)) (fun _ h => h) rfl dX12_rule_123 ?_
      refine lv_iload_n hx hb dX12_rule_126 rfl (lv_at hl 2 rfl) ?_
      refine lv_iload_n hx hb dX12_rule_127 rfl (lv_at hl 3 rfl) ?_
      refine lv_iconst (v := 1) hx hb dX12_rule_128 (by decide) ?_
      refine lv_icmp_ne (tgt := 136) hx hb dX12_rule_129 (by decide) (fun cc0 => absurd c3 cc0) (fun _ => ?_)
      refine lv_iload_n hx hb dX12_rule_132 rfl (lv_at hl 4 rfl) ?_
      refine lv_goto (tgt := 142) hx hb dX12_rule_133 (by decide) ?_
      refine va_iast hx hb hK hP hD hS 1 0 rfl rfl (noCyl_in h7 c1).1 dX12_rule_142 (fun H locs hP hD hS => ?_)
      have hP : va_P g.1 vwCl [((q 14), .inl (g.2 0, 6, .inl (upd a14 (cy.toNatClampNeg) v))), ((q 15), .inl (g.2 0, 6, .inl (upd a15 (cy.toNatClampNeg) v))), ((q 16), .inl (g.2 0, 6, .inl a16)), (h0, .inr (12, mO q i L))] H := hP
      have hD : va_D A [((q 14), .inl (g.2 0, 6, .inl (upd a14 (cy.toNatClampNeg) v))), ((q 15), .inl (g.2 0, 6, .inl (upd a15 (cy.toNatClampNeg) v))), ((q 16), .inl (g.2 0, 6, .inl a16)), (h0, .inr (12, mO q i L))] := hD
      refine lv_aload_n hx hb dX12_rule_143 rfl (lv_at hl 1 rfl) ?_
      refine va_get (D := g.1) (ci := 12) (v := .ref (q 16)) (C := RX12) (T := TX12) (N := 66) hx hb hts hg_X12_rule_X12 hown hK hP 3 rfl rfl 16 (by decide) (hts (.fieldLink RX12 46 "OilPushModel" "leaks" "[I") (by decide +kernel)) (fun _ h => h) rfl dX12_rule_144 ?_
      refine lv_iload_n hx hb dX12_rule_147 rfl (lv_at hl 2 rfl) ?_
      refine lv_iload_n hx hb dX12_rule_148 rfl (lv_at hl 3 rfl) ?_
      refine lv_iconst (v := 2) hx hb dX12_rule_149 (by decide) ?_
      refine lv_icmp_ne (tgt := 157) hx hb dX12_rule_150 (by decide) (fun c13 => ?_) (fun c13 => ?_)
      · refine lv_aload_n hx hb dX12_rule_157 rfl (lv_at hl 1 rfl) ?_
        refine va_get (D := g.1) (ci := 12) (v := .ref (q 16)) (C := RX12) (T := TX12) (N := 66) hx hb hts hg_X12_rule_X12 hown hK hP 3 rfl rfl 16 (by decide) (hts (.fieldLink RX12 46 "OilPushModel" "leaks" "[I") (by decide +kernel)) (fun _ h => h) rfl dX12_rule_158 ?_
        refine lv_iload_n hx hb dX12_rule_161 rfl (lv_at hl 2 rfl) ?_
        refine va_iald hx hb hK hP 2 0 rfl rfl (noCyl_in h7 c1).1 dX12_rule_162 ?_
        refine va_iast hx hb hK hP hD hS 2 0 rfl rfl (noCyl_in h7 c1).1 dX12_rule_163 (fun H locs hP hD hS => ?_)
        have hP : va_P g.1 vwCl [((q 14), .inl (g.2 0, 6, .inl (upd a14 (cy.toNatClampNeg) v))), ((q 15), .inl (g.2 0, 6, .inl (upd a15 (cy.toNatClampNeg) v))), ((q 16), .inl (g.2 0, 6, .inl (upd a16 (cy.toNatClampNeg) (a16 (cy.toNatClampNeg))))), (h0, .inr (12, mO q i L))] H := hP
        have hD : va_D A [((q 14), .inl (g.2 0, 6, .inl (upd a14 (cy.toNatClampNeg) v))), ((q 15), .inl (g.2 0, 6, .inl (upd a15 (cy.toNatClampNeg) v))), ((q 16), .inl (g.2 0, 6, .inl (upd a16 (cy.toNatClampNeg) (a16 (cy.toNatClampNeg))))), (h0, .inr (12, mO q i L))] := hD
        refine lv_iload hx hb dX12_rule_164 (lv_at hl 0 rfl) ?_
        have e90 : (o_g_rule_q14 i a14 cy what v) = (upd a14 (cy.toNatClampNeg) v) := by unfold o_g_rule_q14; rw [if_pos c1, if_neg c2, if_pos c3, if_pos c9, if_neg c12, if_neg c13]
        have e91 : (o_g_rule_q15 i a15 cy what v) = (upd a15 (cy.toNatClampNeg) v) := by unfold o_g_rule_q15; rw [if_pos c1, if_neg c2, if_pos c3, if_pos c9, if_neg c12, if_neg c13]
        have e92 : (o_g_rule_q16 i a16 cy what v) = (upd a16 (cy.toNatClampNeg) (a16 (cy.toNatClampNeg))) := by unfold o_g_rule_q16; rw [if_pos c1, if_neg c2, if_pos c3, if_pos c9, if_neg c12, if_neg c13]
        have hP : va_P g.1 vwCl [((q 14), .inl (g.2 0, 6, .inl (o_g_rule_q14 i a14 cy what v))), ((q 15), .inl (g.2 0, 6, .inl (o_g_rule_q15 i a15 cy what v))), ((q 16), .inl (g.2 0, 6, .inl (o_g_rule_q16 i a16 cy what v))), (h0, .inr (12, mO q i L))] H := by rw [e90, e91, e92]; exact hP
        have hD : va_D A [((q 14), .inl (g.2 0, 6, .inl (o_g_rule_q14 i a14 cy what v))), ((q 15), .inl (g.2 0, 6, .inl (o_g_rule_q15 i a15 cy what v))), ((q 16), .inl (g.2 0, 6, .inl (o_g_rule_q16 i a16 cy what v))), (h0, .inr (12, mO q i L))] := by rw [e90, e91, e92]; exact hD
        exact retI C hS () (by unfold r_g_rule; rw [if_pos c1, if_neg c2, if_pos c3, if_pos c9, if_neg c12, if_neg c13]) (hP.pick [3, 0, 1, 2] rfl) (hD.sub [3, 0, 1, 2] rfl rfl) (Nat.le_of_ble_eq_true rfl) (Nat.le_of_ble_eq_true rfl) dX12_rule_166
      refine lv_iload_n hx hb dX12_rule_153 rfl (lv_at hl 4 rfl) ?_
      refine lv_goto (tgt := 163) hx hb dX12_rule_154 (by decide) ?_
      refine va_iast hx hb hK hP hD hS 2 0 rfl rfl (noCyl_in h7 c1).1 dX12_rule_163 (fun H locs hP hD hS => ?_)
      have hP : va_P g.1 vwCl [((q 14), .inl (g.2 0, 6, .inl (upd a14 (cy.toNatClampNeg) v))), ((q 15), .inl (g.2 0, 6, .inl (upd a15 (cy.toNatClampNeg) v))), ((q 16), .inl (g.2 0, 6, .inl (upd a16 (cy.toNatClampNeg) v))), (h0, .inr (12, mO q i L))] H := hP
      have hD : va_D A [((q 14), .inl (g.2 0, 6, .inl (upd a14 (cy.toNatClampNeg) v))), ((q 15), .inl (g.2 0, 6, .inl (upd a15 (cy.toNatClampNeg) v))), ((q 16), .inl (g.2 0, 6, .inl (upd a16 (cy.toNatClampNeg) v))), (h0, .inr (12, mO q i L))] := hD
      refine lv_iload hx hb dX12_rule_164 (lv_at hl 0 rfl) ?_
      have e90 : (o_g_rule_q14 i a14 cy what v) = (upd a14 (cy.toNatClampNeg) v) := by unfold o_g_rule_q14; rw [if_pos c1, if_neg c2, if_pos c3, if_pos c9, if_neg c12, if_pos c13]
      have e91 : (o_g_rule_q15 i a15 cy what v) = (upd a15 (cy.toNatClampNeg) v) := by unfold o_g_rule_q15; rw [if_pos c1, if_neg c2, if_pos c3, if_pos c9, if_neg c12, if_pos c13]
      have e92 : (o_g_rule_q16 i a16 cy what v) = (upd a16 (cy.toNatClampNeg) v) := by unfold o_g_rule_q16; rw [if_pos c1, if_neg c2, if_pos c3, if_pos c9, if_neg c12, if_pos c13]
      have hP : va_P g.1 vwCl [((q 14), .inl (g.2 0, 6, .inl (o_g_rule_q14 i a14 cy what v))), ((q 15), .inl (g.2 0, 6, .inl (o_g_rule_q15 i a15 cy what v))), ((q 16), .inl (g.2 0, 6, .inl (o_g_rule_q16 i a16 cy what v))), (h0, .inr (12, mO q i L))] H := by rw [e90, e91, e92]; exact hP
      have hD : va_D A [((q 14), .inl (g.2 0, 6, .inl (o_g_rule_q14 i a14 cy what v))), ((q 15), .inl (g.2 0, 6, .inl (o_g_rule_q15 i a15 cy what v))), ((q 16), .inl (g.2 0, 6, .inl (o_g_rule_q16 i a16 cy what v))), (h0, .inr (12, mO q i L))] := by rw [e90, e91, e92]; exact hD
      exact retI C hS () (by unfold r_g_rule; rw [if_pos c1, if_neg c2, if_pos c3, if_pos c9, if_neg c12, if_pos c13]) (hP.pick [3, 0, 1, 2] rfl) (hD.sub [3, 0, 1, 2] rfl rfl) (Nat.le_of_ble_eq_true rfl) (Nat.le_of_ble_eq_true rfl) dX12_rule_166
    refine lv_bipush (v := -2) hx hb dX12_rule_64 (by decide) ?_
    have e90 : (o_g_rule_q14 i a14 cy what v) = a14 := by unfold o_g_rule_q14; rw [if_pos c1, if_neg c2, if_pos c3, if_pos c9, if_pos c12]
    have e91 : (o_g_rule_q15 i a15 cy what v) = a15 := by unfold o_g_rule_q15; rw [if_pos c1, if_neg c2, if_pos c3, if_pos c9, if_pos c12]
    have e92 : (o_g_rule_q16 i a16 cy what v) = a16 := by unfold o_g_rule_q16; rw [if_pos c1, if_neg c2, if_pos c3, if_pos c9, if_pos c12]
    have hP : va_P g.1 vwCl [((q 14), .inl (g.2 0, 6, .inl (o_g_rule_q14 i a14 cy what v))), ((q 15), .inl (g.2 0, 6, .inl (o_g_rule_q15 i a15 cy what v))), ((q 16), .inl (g.2 0, 6, .inl (o_g_rule_q16 i a16 cy what v))), (h0, .inr (12, mO q i L))] H := by rw [e90, e91, e92]; exact hP
    have hD : va_D A [((q 14), .inl (g.2 0, 6, .inl (o_g_rule_q14 i a14 cy what v))), ((q 15), .inl (g.2 0, 6, .inl (o_g_rule_q15 i a15 cy what v))), ((q 16), .inl (g.2 0, 6, .inl (o_g_rule_q16 i a16 cy what v))), (h0, .inr (12, mO q i L))] := by rw [e90, e91, e92]; exact hD
    exact retI C hS () (by unfold r_g_rule; rw [if_pos c1, if_neg c2, if_pos c3, if_pos c9, if_pos c12]) (hP.pick [3, 0, 1, 2] rfl) (hD.sub [3, 0, 1, 2] rfl rfl) (Nat.le_of_ble_eq_true rfl) (Nat.le_of_ble_eq_true rfl) dX12_rule_66
  refine lv_iconst (v := -1) hx hb dX12_rule_20 (by decide) ?_
  have e90 : (o_g_rule_q14 i a14 cy what v) = a14 := by unfold o_g_rule_q14; rw [if_pos c1, if_pos c2]
  have e91 : (o_g_rule_q15 i a15 cy what v) = a15 := by unfold o_g_rule_q15; rw [if_pos c1, if_pos c2]
  have e92 : (o_g_rule_q16 i a16 cy what v) = a16 := by unfold o_g_rule_q16; rw [if_pos c1, if_pos c2]
  have hP : va_P g.1 vwCl [((q 14), .inl (g.2 0, 6, .inl (o_g_rule_q14 i a14 cy what v))), ((q 15), .inl (g.2 0, 6, .inl (o_g_rule_q15 i a15 cy what v))), ((q 16), .inl (g.2 0, 6, .inl (o_g_rule_q16 i a16 cy what v))), (h0, .inr (12, mO q i L))] H := by rw [e90, e91, e92]; exact hP
  have hD : va_D A [((q 14), .inl (g.2 0, 6, .inl (o_g_rule_q14 i a14 cy what v))), ((q 15), .inl (g.2 0, 6, .inl (o_g_rule_q15 i a15 cy what v))), ((q 16), .inl (g.2 0, 6, .inl (o_g_rule_q16 i a16 cy what v))), (h0, .inr (12, mO q i L))] := by rw [e90, e91, e92]; exact hD
  exact retI C hS () (by unfold r_g_rule; rw [if_pos c1, if_pos c2]) (hP.pick [3, 0, 1, 2] rfl) (hD.sub [3, 0, 1, 2] rfl rfl) (Nat.le_of_ble_eq_true rfl) (Nat.le_of_ble_eq_true rfl) dX12_rule_21
def MCI (i a9 a10 a12 : Nat → Int32) : Prop := ∀ c : Nat, (c : Int) < (i 7).toInt → (1 ≤ (a9 c).toInt ∧ (a9 c).toInt ≤ 100) ∧ (1 ≤ (a10 c).toInt ∧ (a10 c).toInt ≤ 100) ∧ 1 ≤ (a12 c).toInt ∧ (a12 c).toInt ≤ 10
def MOI (i a9 a10 a11 : Nat → Int32) : Prop := ∀ c : Nat, (c : Int) < (i 7).toInt → 0 ≤ (a11 c).toInt ∧ (a11 c).toInt ≤ (a9 c).toInt * (a10 c).toInt
theorem cl_nat {cy : Int32} {n : Nat} (h : vp_in cy n) : ((cy.toNatClampNeg : Nat) : Int) = cy.toInt := by
  have h1 := (vp_in_iff.mp h).1
  show ((cy.toInt.toNat : Nat) : Int) = cy.toInt
  omega
theorem mul_toInt {a b : Int32} (ha : 1 ≤ a.toInt ∧ a.toInt ≤ 100) (hb : 1 ≤ b.toInt ∧ b.toInt ≤ 100) : (a * b).toInt = a.toInt * b.toInt ∧ 1 ≤ a.toInt * b.toInt ∧ a.toInt * b.toInt ≤ 10000 := by
  have h1 : a.toInt * b.toInt ≤ 100 * 100 := Int.mul_le_mul ha.2 hb.2 (by omega) (by omega)
  have h2 : 1 * 1 ≤ a.toInt * b.toInt := Int.mul_le_mul ha.1 hb.1 (by omega) (by omega)
  refine ⟨?_, by omega, by omega⟩
  rw [Int32.toInt_mul, Int.bmod_eq_of_le] <;> omega
theorem room_ne {i a9 a10 a12 : Nat → Int32} {cy : Int32} (hM : MCI i a9 a10 a12) (hc : vp_in cy 6) (hlt : cy.toInt < (i 7).toInt) : ¬ a9 (cy.toNatClampNeg) * a10 (cy.toNatClampNeg) = 0 := by
  have h := hM cy.toNatClampNeg (by rw [cl_nat hc]; exact hlt)
  have h2 := mul_toInt h.1 h.2.1
  intro e
  rw [e, Int32.toInt_zero] at h2
  omega
theorem area_ne {i a9 a10 a12 : Nat → Int32} {cy : Int32} (hM : MCI i a9 a10 a12) (hc : vp_in cy 6) (hlt : cy.toInt < (i 7).toInt) : ¬ a9 (cy.toNatClampNeg) = 0 := by
  have h := hM cy.toNatClampNeg (by rw [cl_nat hc]; exact hlt)
  intro e
  rw [e, Int32.toInt_zero] at h
  omega
theorem load_in {i a9 a10 a11 a12 : Nat → Int32} {cy : Int32} (hM : MCI i a9 a10 a12) (hO : MOI i a9 a10 a11) (hc : vp_in cy 6) (hlt : cy.toInt < (i 7).toInt) : vp_in (10 * cy + r_c_lesser (a11 (cy.toNatClampNeg) * a12 (cy.toNatClampNeg) / (a9 (cy.toNatClampNeg) * a10 (cy.toNatClampNeg))) (a12 (cy.toNatClampNeg) - 1)) 60 := by
  have h := hM cy.toNatClampNeg (by rw [cl_nat hc]; exact hlt)
  have ho := hO cy.toNatClampNeg (by rw [cl_nat hc]; exact hlt)
  have h2 := mul_toInt h.1 h.2.1
  have hcy := vp_in_iff.mp hc
  generalize a9 (cy.toNatClampNeg) = x9 at h ho h2 ⊢
  generalize a10 (cy.toNatClampNeg) = x10 at h ho h2 ⊢
  generalize a11 (cy.toNatClampNeg) = x11 at ho ⊢
  generalize a12 (cy.toNatClampNeg) = x12 at h ⊢
  have h3 : x11.toInt * x12.toInt ≤ 10000 * 10 := Int.mul_le_mul (by omega) (by omega) (by omega) (by omega)
  have h4 : 0 ≤ x11.toInt * x12.toInt := Int.mul_nonneg ho.1 (by omega)
  have e1 : (x11 * x12).toInt = x11.toInt * x12.toInt := by
    rw [Int32.toInt_mul, Int.bmod_eq_of_le] <;> omega
  have e2 : (x12 - 1).toInt = x12.toInt - 1 := by
    rw [Int32.toInt_sub, show (1 : Int32).toInt = 1 from by decide, Int.bmod_eq_of_le] <;> omega
  have e3 : 0 ≤ (x11 * x12 / (x9 * x10)).toInt := by
    rw [Int32.toInt_div, e1, h2.1]
    have := Int.tdiv_nonneg h4 (show 0 ≤ x9.toInt * x10.toInt by omega)
    have h5 : (x11.toInt * x12.toInt).tdiv (x9.toInt * x10.toInt) ≤ x11.toInt * x12.toInt := Int.tdiv_le_self _ h4
    rw [Int.bmod_eq_of_le] <;> omega
  have e4 : 0 ≤ (r_c_lesser (x11 * x12 / (x9 * x10)) (x12 - 1)).toInt ∧ (r_c_lesser (x11 * x12 / (x9 * x10)) (x12 - 1)).toInt ≤ 9 := by
    unfold r_c_lesser
    by_cases hh : x12 - 1 ≤ x11 * x12 / (x9 * x10)
    · rw [if_pos hh, e2]; omega
    · rw [if_neg hh]
      rw [Int32.le_iff_toInt_le, e2] at hh
      omega
  generalize r_c_lesser (x11 * x12 / (x9 * x10)) (x12 - 1) = y at e4 ⊢
  have e5 : (10 * cy).toInt = 10 * cy.toInt := by
    rw [Int32.toInt_mul, show (10 : Int32).toInt = 10 from by decide, Int.bmod_eq_of_le] <;> omega
  rw [vp_in_iff, Int32.toInt_add, e5, Int.bmod_eq_of_le] <;> omega
theorem hg_X12_loadOf_X12 : ∀ w ∈ wsX120, w ∈ wsX12_loadOf := fun w h => List.mem_cons_of_mem _ (List.mem_append_right _ h)
def r_g_loadOf (a11 : Nat → Int32) (a12 : Nat → Int32) (a9 : Nat → Int32) (a10 : Nat → Int32) (a13 : Nat → Int32) (cy : Int32) : Int32 := (a13 (((10 * cy) + (r_c_lesser (((a11 (cy.toNatClampNeg)) * (a12 (cy.toNatClampNeg))) / ((a9 (cy.toNatClampNeg)) * (a10 (cy.toNatClampNeg)))) ((a12 (cy.toNatClampNeg)) - 1))).toNatClampNeg))
set_option maxRecDepth 100000 in
set_option maxHeartbeats 4000000 in
theorem g_loadOf (l : Launch) (g : Gt) (h0 : Nat) (q : Nat → Nat) (i : Nat → Int32) (L : Nat → Int64) (a11 : Nat → Int32) (a12 : Nat → Int32) (a9 : Nat → Int32) (a10 : Nat → Int32) (a13 : Nat → Int32) (cy : Int32) (hM : MCI i a9 a10 a12) (hO : MOI i a9 a10 a11) (hc : vp_in cy 6) (hlt : cy.toInt < (i 7).toInt) : Ctr l g yX12_loadOf wsX12_loadOf ({ frames := 1, cells := 0, slots := 0, locals := 21 } : Room) [.ref h0, .int cy] [(h0, .inr (12, mO q i L)), ((q 11), .inl (g.2 0, 6, .inl a11)), ((q 12), .inl (g.2 0, 6, .inl a12)), ((q 9), .inl (g.2 0, 6, .inl a9)), ((q 10), .inl (g.2 0, 6, .inl a10)), ((q 13), .inl (g.2 0, 60, .inl a13))] (fun A => QI g A (fun r (_ : Unit) => r = (r_g_loadOf a11 a12 a9 a10 a13 cy)) (fun _u : Unit => [(h0, .inr (12, mO q i L)), ((q 11), .inl (g.2 0, 6, .inl a11)), ((q 12), .inl (g.2 0, 6, .inl a12)), ((q 9), .inl (g.2 0, 6, .inl a9)), ((q 10), .inl (g.2 0, 6, .inl a10)), ((q 13), .inl (g.2 0, 60, .inl a13))])) := by
  refine Ctr.of (cc := cX12_loadOf) (maxL := 3) (ret := (some .int)) (by decide) rfl (Nat.le_of_ble_eq_true rfl) ?_
  intro p e s m below meth c A ls H C hP hD hA hS hl
  obtain ⟨hx, hb, hr, hts, hown, hlocks, hml, hin, hKN⟩ := id C
  have hK := hKN.1
  have hN := hKN.2
  have F : CallFix p m c cX12_loadOf 3 s _ wsX12_loadOf yX12_loadOf.cls := ⟨hx, hb, hml, hown, hts⟩
  have hl : lv_has ls 3 [(0, .ref h0), (1, .int cy)] := hl
  refine lv_aload_n hx hb dX12_loadOf_0 rfl (lv_at hl 0 rfl) ?_
  refine va_get (D := g.1) (ci := 12) (v := .ref (q 11)) (C := RX12) (T := TX12) (N := 66) hx hb hts hg_X12_loadOf_X12 hown hK hP 0 rfl rfl 11 (by decide) (hts (.fieldLink RX12 31 "OilPushModel" "oil" "[I") (by decide +kernel)) (fun _ h => h) rfl dX12_loadOf_1 ?_
  refine lv_iload_n hx hb dX12_loadOf_4 rfl (lv_at hl 1 rfl) ?_
  refine va_iald hx hb hK hP 1 0 rfl rfl hc dX12_loadOf_5 ?_
  refine lv_aload_n hx hb dX12_loadOf_6 rfl (lv_at hl 0 rfl) ?_
  refine va_get (D := g.1) (ci := 12) (v := .ref (q 12)) (C := RX12) (T := TX12) (N := 66) hx hb hts hg_X12_loadOf_X12 hown hK hP 0 rfl rfl 12 (by decide) (hts (.fieldLink RX12 34 "OilPushModel" "loadMany" "[I") (by decide +kernel)) (fun _ h => h) rfl dX12_loadOf_7 ?_
  refine lv_iload_n hx hb dX12_loadOf_10 rfl (lv_at hl 1 rfl) ?_
  refine va_iald hx hb hK hP 2 0 rfl rfl hc dX12_loadOf_11 ?_
  refine lv_imul hx hb dX12_loadOf_12 ?_
  refine lv_aload_n hx hb dX12_loadOf_13 rfl (lv_at hl 0 rfl) ?_
  refine lv_iload_n hx hb dX12_loadOf_14 rfl (lv_at hl 1 rfl) ?_
  refine callIV (As := [.int cy]) (rest := [.int ((a11 (cy.toNatClampNeg)) * (a12 (cy.toNatClampNeg)))]) (wr := [((q 11), .inl (g.2 0, 6, .inl a11)), ((q 12), .inl (g.2 0, 6, .inl a12)), ((q 13), .inl (g.2 0, 60, .inl a13))]) (Cn := RX12) C (g_room l g h0 q i L a9 a10 cy hc) 1 gX12_loadOf_X12_room rfl (by decide +kernel) ⟨(Nat.le_of_ble_eq_true rfl), (Nat.le_of_ble_eq_true rfl)⟩ [0, 3, 4] [1, 2, 5] hP hD hA hS rfl rfl rfl rfl (by decide) (k := 0) (ci := 12) rfl rfl rfl rfl hl.1 rfl (Nat.le_of_ble_eq_true rfl) dX12_loadOf_15 ⟨(Nat.le_of_ble_eq_true rfl), (Nat.le_of_ble_eq_true rfl)⟩ (fun r _u H locs hw hP hD hS => ?_)
  have hP : va_P g.1 vwCl [((q 11), .inl (g.2 0, 6, .inl a11)), ((q 12), .inl (g.2 0, 6, .inl a12)), ((q 13), .inl (g.2 0, 60, .inl a13)), (h0, .inr (12, mO q i L)), ((q 9), .inl (g.2 0, 6, .inl a9)), ((q 10), .inl (g.2 0, 6, .inl a10))] H := hP
  have hD : va_D A [((q 11), .inl (g.2 0, 6, .inl a11)), ((q 12), .inl (g.2 0, 6, .inl a12)), ((q 13), .inl (g.2 0, 60, .inl a13)), (h0, .inr (12, mO q i L)), ((q 9), .inl (g.2 0, 6, .inl a9)), ((q 10), .inl (g.2 0, 6, .inl a10))] := hD
  subst hw
  refine lv_idiv hx hb dX12_loadOf_18 (room_ne hM hc hlt) ?_
  refine lv_istore_n (lv' := [(2, .int (((a11 (cy.toNatClampNeg)) * (a12 (cy.toNatClampNeg))) / ((a9 (cy.toNatClampNeg)) * (a10 (cy.toNatClampNeg))))), (0, .ref h0), (1, .int cy)]) hx hb dX12_loadOf_19 rfl hl (by decide) rfl (fun ls hl => ?_)
  refine lv_aload_n hx hb dX12_loadOf_20 rfl (lv_at hl 1 rfl) ?_
  refine va_get (D := g.1) (ci := 12) (v := .ref (q 13)) (C := RX12) (T := TX12) (N := 66) hx hb hts hg_X12_loadOf_X12 hown hK hP 3 rfl rfl 13 (by decide) (hts (.fieldLink RX12 37 "OilPushModel" "load" "[I") (by decide +kernel)) (fun _ h => h) rfl dX12_loadOf_21 ?_
  refine lv_bipush (v := 10) hx hb dX12_loadOf_24 (by decide) ?_
  refine lv_iload_n hx hb dX12_loadOf_26 rfl (lv_at hl 2 rfl) ?_
  refine lv_imul hx hb dX12_loadOf_27 ?_
  refine lv_iload_n hx hb dX12_loadOf_28 rfl (lv_at hl 0 rfl) ?_
  refine lv_aload_n hx hb dX12_loadOf_29 rfl (lv_at hl 1 rfl) ?_
  refine va_get (D := g.1) (ci := 12) (v := .ref (q 12)) (C := RX12) (T := TX12) (N := 66) hx hb hts hg_X12_loadOf_X12 hown hK hP 3 rfl rfl 12 (by decide) (hts (.fieldLink RX12 34 "OilPushModel" "loadMany" "[I") (by decide +kernel)) (fun _ h => h) rfl dX12_loadOf_30 ?_
  refine lv_iload_n hx hb dX12_loadOf_33 rfl (lv_at hl 2 rfl) ?_
  refine va_iald hx hb hK hP 1 0 rfl rfl hc dX12_loadOf_34 ?_
  refine lv_iconst (v := 1) hx hb dX12_loadOf_35 (by decide) ?_
  refine lv_isub hx hb dX12_loadOf_36 ?_
  refine pureIS (As := [.int (((a11 (cy.toNatClampNeg)) * (a12 (cy.toNatClampNeg))) / ((a9 (cy.toNatClampNeg)) * (a10 (cy.toNatClampNeg)))), .int ((a12 (cy.toNatClampNeg)) - 1)]) (rest := [.int (10 * cy), .ref (q 13)]) F (c_lesser l (((a11 (cy.toNatClampNeg)) * (a12 (cy.toNatClampNeg))) / ((a9 (cy.toNatClampNeg)) * (a10 (cy.toNatClampNeg)))) ((a12 (cy.toNatClampNeg)) - 1)) 2 gX12_loadOf_X12_lesser rfl (by decide +kernel) rfl rfl ⟨(Nat.le_of_ble_eq_true rfl), (Nat.le_of_ble_eq_true rfl)⟩ (Nat.le_of_ble_eq_true rfl) (Nat.le_of_ble_eq_true rfl) rfl hl.1 rfl (Nat.le_of_ble_eq_true rfl) dX12_loadOf_37 ?_
  refine lv_iadd hx hb dX12_loadOf_40 ?_
  refine va_iald hx hb hK hP 2 0 rfl rfl (load_in hM hO hc hlt) dX12_loadOf_41 ?_
  exact retI C hS () rfl (hP.pick [3, 0, 1, 4, 5, 2] rfl) (hD.sub [3, 0, 1, 4, 5, 2] rfl rfl) (Nat.le_of_ble_eq_true rfl) (Nat.le_of_ble_eq_true rfl) dX12_loadOf_42
theorem hg_X12_needOf_X12 : ∀ w ∈ wsX120, w ∈ wsX12_needOf := fun w h => List.mem_cons_of_mem _ (List.mem_append_right _ h)
def r_g_needOf (a11 : Nat → Int32) (a12 : Nat → Int32) (a9 : Nat → Int32) (a10 : Nat → Int32) (a13 : Nat → Int32) (a8 : Nat → Int32) (a14 : Nat → Int32) (cy : Int32) : Int32 := (if (a8 (cy.toNatClampNeg)) = 2 then (((((((r_g_loadOf a11 a12 a9 a10 a13 cy) + (a9 (cy.toNatClampNeg))) - 1) / (a9 (cy.toNatClampNeg))) + 1) / 2) + (a14 (cy.toNatClampNeg))) else (((((r_g_loadOf a11 a12 a9 a10 a13 cy) + (a9 (cy.toNatClampNeg))) - 1) / (a9 (cy.toNatClampNeg))) + (a14 (cy.toNatClampNeg))))
set_option maxRecDepth 100000 in
set_option maxHeartbeats 4000000 in
theorem g_needOf (l : Launch) (g : Gt) (h0 : Nat) (q : Nat → Nat) (i : Nat → Int32) (L : Nat → Int64) (a11 : Nat → Int32) (a12 : Nat → Int32) (a9 : Nat → Int32) (a10 : Nat → Int32) (a13 : Nat → Int32) (a8 : Nat → Int32) (a14 : Nat → Int32) (cy : Int32) (hM : MCI i a9 a10 a12) (hO : MOI i a9 a10 a11) (hc : vp_in cy 6) (hlt : cy.toInt < (i 7).toInt) : Ctr l g yX12_needOf wsX12_needOf ({ frames := 2, cells := 0, slots := 0, locals := 43 } : Room) [.ref h0, .int cy] [(h0, .inr (12, mO q i L)), ((q 11), .inl (g.2 0, 6, .inl a11)), ((q 12), .inl (g.2 0, 6, .inl a12)), ((q 9), .inl (g.2 0, 6, .inl a9)), ((q 10), .inl (g.2 0, 6, .inl a10)), ((q 13), .inl (g.2 0, 60, .inl a13)), ((q 8), .inl (g.2 0, 6, .inl a8)), ((q 14), .inl (g.2 0, 6, .inl a14))] (fun A => QI g A (fun r (_ : Unit) => r = (r_g_needOf a11 a12 a9 a10 a13 a8 a14 cy)) (fun _u : Unit => [(h0, .inr (12, mO q i L)), ((q 11), .inl (g.2 0, 6, .inl a11)), ((q 12), .inl (g.2 0, 6, .inl a12)), ((q 9), .inl (g.2 0, 6, .inl a9)), ((q 10), .inl (g.2 0, 6, .inl a10)), ((q 13), .inl (g.2 0, 60, .inl a13)), ((q 8), .inl (g.2 0, 6, .inl a8)), ((q 14), .inl (g.2 0, 6, .inl a14))])) := by
  refine Ctr.of (cc := cX12_needOf) (maxL := 3) (ret := (some .int)) (by decide) rfl (Nat.le_of_ble_eq_true rfl) ?_
  intro p e s m below meth c A ls H C hP hD hA hS hl
  obtain ⟨hx, hb, hr, hts, hown, hlocks, hml, hin, hKN⟩ := id C
  have hK := hKN.1
  have hN := hKN.2
  have F : CallFix p m c cX12_needOf 3 s _ wsX12_needOf yX12_needOf.cls := ⟨hx, hb, hml, hown, hts⟩
  have hl : lv_has ls 3 [(0, .ref h0), (1, .int cy)] := hl
  refine lv_aload_n hx hb dX12_needOf_0 rfl (lv_at hl 0 rfl) ?_
  refine lv_iload_n hx hb dX12_needOf_1 rfl (lv_at hl 1 rfl) ?_
  refine callIV (As := [.int cy]) (rest := []) (wr := [((q 8), .inl (g.2 0, 6, .inl a8)), ((q 14), .inl (g.2 0, 6, .inl a14))]) (Cn := RX12) C (g_loadOf l g h0 q i L a11 a12 a9 a10 a13 cy hM hO hc hlt) 1 gX12_needOf_X12_loadOf rfl (by decide +kernel) ⟨(Nat.le_of_ble_eq_true rfl), (Nat.le_of_ble_eq_true rfl)⟩ [0, 1, 2, 3, 4, 5] [6, 7] hP hD hA hS rfl rfl rfl rfl (by decide) (k := 0) (ci := 12) rfl rfl rfl rfl hl.1 rfl (Nat.le_of_ble_eq_true rfl) dX12_needOf_2 ⟨(Nat.le_of_ble_eq_true rfl), (Nat.le_of_ble_eq_true rfl)⟩ (fun r _u H locs hw hP hD hS => ?_)
  have hP : va_P g.1 vwCl [((q 8), .inl (g.2 0, 6, .inl a8)), ((q 14), .inl (g.2 0, 6, .inl a14)), (h0, .inr (12, mO q i L)), ((q 11), .inl (g.2 0, 6, .inl a11)), ((q 12), .inl (g.2 0, 6, .inl a12)), ((q 9), .inl (g.2 0, 6, .inl a9)), ((q 10), .inl (g.2 0, 6, .inl a10)), ((q 13), .inl (g.2 0, 60, .inl a13))] H := hP
  have hD : va_D A [((q 8), .inl (g.2 0, 6, .inl a8)), ((q 14), .inl (g.2 0, 6, .inl a14)), (h0, .inr (12, mO q i L)), ((q 11), .inl (g.2 0, 6, .inl a11)), ((q 12), .inl (g.2 0, 6, .inl a12)), ((q 9), .inl (g.2 0, 6, .inl a9)), ((q 10), .inl (g.2 0, 6, .inl a10)), ((q 13), .inl (g.2 0, 60, .inl a13))] := hD
  subst hw
  refine lv_aload_n hx hb dX12_needOf_5 rfl (lv_at hl 0 rfl) ?_
  refine va_get (D := g.1) (ci := 12) (v := .ref (q 9)) (C := RX12) (T := TX12) (N := 66) hx hb hts hg_X12_needOf_X12 hown hK hP 2 rfl rfl 9 (by decide) (hts (.fieldLink RX12 25 "OilPushModel" "area" "[I") (by decide +kernel)) (fun _ h => h) rfl dX12_needOf_6 ?_
  refine lv_iload_n hx hb dX12_needOf_9 rfl (lv_at hl 1 rfl) ?_
  refine va_iald hx hb hK hP 5 0 rfl rfl hc dX12_needOf_10 ?_
  refine lv_iadd hx hb dX12_needOf_11 ?_
  refine lv_iconst (v := 1) hx hb dX12_needOf_12 (by decide) ?_
  refine lv_isub hx hb dX12_needOf_13 ?_
  refine lv_aload_n hx hb dX12_needOf_14 rfl (lv_at hl 0 rfl) ?_
  refine va_get (D := g.1) (ci := 12) (v := .ref (q 9)) (C := RX12) (T := TX12) (N := 66) hx hb hts hg_X12_needOf_X12 hown hK hP 2 rfl rfl 9 (by decide) (hts (.fieldLink RX12 25 "OilPushModel" "area" "[I") (by decide +kernel)) (fun _ h => h) rfl dX12_needOf_15 ?_
  refine lv_iload_n hx hb dX12_needOf_18 rfl (lv_at hl 1 rfl) ?_
  refine va_iald hx hb hK hP 5 0 rfl rfl hc dX12_needOf_19 ?_
  refine lv_idiv hx hb dX12_needOf_20 (area_ne hM hc hlt) ?_
  refine lv_istore_n (lv' := [(2, .int ((((r_g_loadOf a11 a12 a9 a10 a13 cy) + (a9 (cy.toNatClampNeg))) - 1) / (a9 (cy.toNatClampNeg)))), (0, .ref h0), (1, .int cy)]) hx hb dX12_needOf_21 rfl hl (by decide) rfl (fun ls hl => ?_)
  refine lv_aload_n hx hb dX12_needOf_22 rfl (lv_at hl 1 rfl) ?_
  refine va_get (D := g.1) (ci := 12) (v := .ref (q 8)) (C := RX12) (T := TX12) (N := 66) hx hb hts hg_X12_needOf_X12 hown hK hP 2 rfl rfl 8 (by decide) (hts (.fieldLink RX12 22 "OilPushModel" "kind" "[I") (by decide +kernel)) (fun _ h => h) rfl dX12_needOf_23 ?_
  refine lv_iload_n hx hb dX12_needOf_26 rfl (lv_at hl 2 rfl) ?_
  refine va_iald hx hb hK hP 0 0 rfl rfl hc dX12_needOf_27 ?_
  refine lv_iconst (v := 2) hx hb dX12_needOf_28 (by decide) ?_
  refine lv_icmp_ne (tgt := 40) hx hb dX12_needOf_29 (by decide) (fun c1 => ?_) (fun c1 => ?_)
  · refine lv_iload_n hx hb dX12_needOf_40 rfl (lv_at hl 0 rfl) ?_
    refine lv_aload_n hx hb dX12_needOf_41 rfl (lv_at hl 1 rfl) ?_
    refine va_get (D := g.1) (ci := 12) (v := .ref (q 14)) (C := RX12) (T := TX12) (N := 66) hx hb hts hg_X12_needOf_X12 hown hK hP 2 rfl rfl 14 (by decide) (hts (.fieldLink RX12 40 "OilPushModel" "crack" "[I") (by decide +kernel)) (fun _ h => h) rfl dX12_needOf_42 ?_
    refine lv_iload_n hx hb dX12_needOf_45 rfl (lv_at hl 2 rfl) ?_
    refine va_iald hx hb hK hP 1 0 rfl rfl hc dX12_needOf_46 ?_
    refine lv_iadd hx hb dX12_needOf_47 ?_
    exact retI C hS () (by unfold r_g_needOf; rw [if_neg c1]) (hP.pick [2, 3, 4, 5, 6, 7, 0, 1] rfl) (hD.sub [2, 3, 4, 5, 6, 7, 0, 1] rfl rfl) (Nat.le_of_ble_eq_true rfl) (Nat.le_of_ble_eq_true rfl) dX12_needOf_48
  refine lv_iload_n hx hb dX12_needOf_32 rfl (lv_at hl 0 rfl) ?_
  refine lv_iconst (v := 1) hx hb dX12_needOf_33 (by decide) ?_
  refine lv_iadd hx hb dX12_needOf_34 ?_
  refine lv_iconst (v := 2) hx hb dX12_needOf_35 (by decide) ?_
  refine lv_idiv hx hb dX12_needOf_36 (by decide) ?_
  refine lv_goto (tgt := 41) hx hb dX12_needOf_37 (by decide) ?_
  refine lv_aload_n hx hb dX12_needOf_41 rfl (lv_at hl 1 rfl) ?_
  refine va_get (D := g.1) (ci := 12) (v := .ref (q 14)) (C := RX12) (T := TX12) (N := 66) hx hb hts hg_X12_needOf_X12 hown hK hP 2 rfl rfl 14 (by decide) (hts (.fieldLink RX12 40 "OilPushModel" "crack" "[I") (by decide +kernel)) (fun _ h => h) rfl dX12_needOf_42 ?_
  refine lv_iload_n hx hb dX12_needOf_45 rfl (lv_at hl 2 rfl) ?_
  refine va_iald hx hb hK hP 1 0 rfl rfl hc dX12_needOf_46 ?_
  refine lv_iadd hx hb dX12_needOf_47 ?_
  exact retI C hS () (by unfold r_g_needOf; rw [if_pos c1]) (hP.pick [2, 3, 4, 5, 6, 7, 0, 1] rfl) (hD.sub [2, 3, 4, 5, 6, 7, 0, 1] rfl rfl) (Nat.le_of_ble_eq_true rfl) (Nat.le_of_ble_eq_true rfl) dX12_needOf_48
theorem hg_X12_about_X12 : ∀ w ∈ wsX120, w ∈ wsX12_about := fun w h => List.mem_cons_of_mem _ (List.mem_append_right _ h)
def r_g_about (i : Nat → Int32) (a11 : Nat → Int32) (a12 : Nat → Int32) (a9 : Nat → Int32) (a10 : Nat → Int32) (a13 : Nat → Int32) (a8 : Nat → Int32) (a14 : Nat → Int32) (a17 : Nat → Int32) (a18 : Nat → Int32) (a19 : Nat → Int32) (cy : Int32) (what : Int32) : Int32 := (if (r_g_noCylinder i cy) = 0 then (if what = 0 then (a8 (cy.toNatClampNeg)) else (if what = 1 then (a9 (cy.toNatClampNeg)) else (if what = 2 then (a10 (cy.toNatClampNeg)) else (if what = 3 then (a11 (cy.toNatClampNeg)) else (if what = 4 then (r_g_loadOf a11 a12 a9 a10 a13 cy) else (if what = 5 then (r_g_needOf a11 a12 a9 a10 a13 a8 a14 cy) else (if what = 6 then (a17 (cy.toNatClampNeg)) else (if what = 7 then (a12 (cy.toNatClampNeg)) else (if what = 8 then (if (a18 (cy.toNatClampNeg)) = 0 then 0 else 1) else (if what = 9 then (a19 (cy.toNatClampNeg)) else (-2))))))))))) else (-1))
set_option maxRecDepth 100000 in
set_option maxHeartbeats 4000000 in
theorem g_about (l : Launch) (g : Gt) (h0 : Nat) (q : Nat → Nat) (i : Nat → Int32) (L : Nat → Int64) (a11 : Nat → Int32) (a12 : Nat → Int32) (a9 : Nat → Int32) (a10 : Nat → Int32) (a13 : Nat → Int32) (a8 : Nat → Int32) (a14 : Nat → Int32) (a17 : Nat → Int32) (a18 : Nat → Int32) (a19 : Nat → Int32) (cy : Int32) (what : Int32) (h7 : 0 ≤ (i 7).toInt ∧ (i 7).toInt ≤ 6) (hM : MCI i a9 a10 a12) (hO : MOI i a9 a10 a11) : Ctr l g yX12_about wsX12_about ({ frames := 3, cells := 0, slots := 0, locals := 65 } : Room) [.ref h0, .int cy, .int what] [(h0, .inr (12, mO q i L)), ((q 11), .inl (g.2 0, 6, .inl a11)), ((q 12), .inl (g.2 0, 6, .inl a12)), ((q 9), .inl (g.2 0, 6, .inl a9)), ((q 10), .inl (g.2 0, 6, .inl a10)), ((q 13), .inl (g.2 0, 60, .inl a13)), ((q 8), .inl (g.2 0, 6, .inl a8)), ((q 14), .inl (g.2 0, 6, .inl a14)), ((q 17), .inl (g.2 0, 6, .inl a17)), ((q 18), .inl (g.2 1, 6, .inl a18)), ((q 19), .inl (g.2 0, 6, .inl a19))] (fun A => QI g A (fun r (_ : Unit) => r = (r_g_about i a11 a12 a9 a10 a13 a8 a14 a17 a18 a19 cy what)) (fun _u : Unit => [(h0, .inr (12, mO q i L)), ((q 11), .inl (g.2 0, 6, .inl a11)), ((q 12), .inl (g.2 0, 6, .inl a12)), ((q 9), .inl (g.2 0, 6, .inl a9)), ((q 10), .inl (g.2 0, 6, .inl a10)), ((q 13), .inl (g.2 0, 60, .inl a13)), ((q 8), .inl (g.2 0, 6, .inl a8)), ((q 14), .inl (g.2 0, 6, .inl a14)), ((q 17), .inl (g.2 0, 6, .inl a17)), ((q 18), .inl (g.2 1, 6, .inl a18)), ((q 19), .inl (g.2 0, 6, .inl a19))])) := by
  refine Ctr.of (cc := cX12_about) (maxL := 3) (ret := (some .int)) (by decide) rfl (Nat.le_of_ble_eq_true rfl) ?_
  intro p e s m below meth c A ls H C hP hD hA hS hl
  obtain ⟨hx, hb, hr, hts, hown, hlocks, hml, hin, hKN⟩ := id C
  have hK := hKN.1
  have hN := hKN.2
  have F : CallFix p m c cX12_about 3 s _ wsX12_about yX12_about.cls := ⟨hx, hb, hml, hown, hts⟩
  have hl : lv_has ls 3 [(0, .ref h0), (1, .int cy), (2, .int what)] := hl
  refine lv_aload_n hx hb dX12_about_0 rfl (lv_at hl 0 rfl) ?_
  refine lv_iload_n hx hb dX12_about_1 rfl (lv_at hl 1 rfl) ?_
  refine callIV (As := [.int cy]) (rest := []) (wr := [((q 11), .inl (g.2 0, 6, .inl a11)), ((q 12), .inl (g.2 0, 6, .inl a12)), ((q 9), .inl (g.2 0, 6, .inl a9)), ((q 10), .inl (g.2 0, 6, .inl a10)), ((q 13), .inl (g.2 0, 60, .inl a13)), ((q 8), .inl (g.2 0, 6, .inl a8)), ((q 14), .inl (g.2 0, 6, .inl a14)), ((q 17), .inl (g.2 0, 6, .inl a17)), ((q 18), .inl (g.2 1, 6, .inl a18)), ((q 19), .inl (g.2 0, 6, .inl a19))]) (Cn := RX12) C (g_noCylinder l g h0 q i L cy) 1 gX12_about_X12_noCylinder rfl (by decide +kernel) ⟨(Nat.le_of_ble_eq_true rfl), (Nat.le_of_ble_eq_true rfl)⟩ [0] [1, 2, 3, 4, 5, 6, 7, 8, 9, 10] hP hD hA hS rfl rfl rfl rfl (by decide) (k := 0) (ci := 12) rfl rfl rfl rfl hl.1 rfl (Nat.le_of_ble_eq_true rfl) dX12_about_2 ⟨(Nat.le_of_ble_eq_true rfl), (Nat.le_of_ble_eq_true rfl)⟩ (fun r _u H locs hw hP hD hS => ?_)
  have hP : va_P g.1 vwCl [((q 11), .inl (g.2 0, 6, .inl a11)), ((q 12), .inl (g.2 0, 6, .inl a12)), ((q 9), .inl (g.2 0, 6, .inl a9)), ((q 10), .inl (g.2 0, 6, .inl a10)), ((q 13), .inl (g.2 0, 60, .inl a13)), ((q 8), .inl (g.2 0, 6, .inl a8)), ((q 14), .inl (g.2 0, 6, .inl a14)), ((q 17), .inl (g.2 0, 6, .inl a17)), ((q 18), .inl (g.2 1, 6, .inl a18)), ((q 19), .inl (g.2 0, 6, .inl a19)), (h0, .inr (12, mO q i L))] H := hP
  have hD : va_D A [((q 11), .inl (g.2 0, 6, .inl a11)), ((q 12), .inl (g.2 0, 6, .inl a12)), ((q 9), .inl (g.2 0, 6, .inl a9)), ((q 10), .inl (g.2 0, 6, .inl a10)), ((q 13), .inl (g.2 0, 60, .inl a13)), ((q 8), .inl (g.2 0, 6, .inl a8)), ((q 14), .inl (g.2 0, 6, .inl a14)), ((q 17), .inl (g.2 0, 6, .inl a17)), ((q 18), .inl (g.2 1, 6, .inl a18)), ((q 19), .inl (g.2 0, 6, .inl a19)), (h0, .inr (12, mO q i L))] := hD
  subst hw
  refine lv_if_eq (tgt := 10) hx hb dX12_about_5 (by decide) (fun c1 => ?_) (fun c1 => ?_)
  · refine lv_iload_n hx hb dX12_about_10 rfl (lv_at hl 2 rfl) ?_
    by_cases w2 : what = 0
    · refine lv_tableIn (tgt := 64) (off := 53) hx hb dX12_about_11 (by rw [w2]; decide) (by rw [w2]; decide) (by rw [w2]; rfl) (by decide) ?_
      refine lv_aload_n hx hb dX12_about_64 rfl (lv_at hl 0 rfl) ?_
      refine va_get (D := g.1) (ci := 12) (v := .ref (q 8)) (C := RX12) (T := TX12) (N := 66) hx hb hts hg_X12_about_X12 hown hK hP 10 rfl rfl 8 (by decide) (hts (.fieldLink RX12 22 "OilPushModel" "kind" "[I") (by decide +kernel)) (fun _ h => h) rfl dX12_about_65 ?_
      refine lv_iload_n hx hb dX12_about_68 rfl (lv_at hl 1 rfl) ?_
      refine va_iald hx hb hK hP 5 0 rfl rfl (noCyl_in h7 c1).1 dX12_about_69 ?_
      exact retI C hS () (by unfold r_g_about; rw [if_pos c1, if_pos w2]) (hP.pick [10, 0, 1, 2, 3, 4, 5, 6, 7, 8, 9] rfl) (hD.sub [10, 0, 1, 2, 3, 4, 5, 6, 7, 8, 9] rfl rfl) (Nat.le_of_ble_eq_true rfl) (Nat.le_of_ble_eq_true rfl) dX12_about_70
    by_cases w3 : what = 1
    · refine lv_tableIn (tgt := 71) (off := 60) hx hb dX12_about_11 (by rw [w3]; decide) (by rw [w3]; decide) (by rw [w3]; rfl) (by decide) ?_
      refine lv_aload_n hx hb dX12_about_71 rfl (lv_at hl 0 rfl) ?_
      refine va_get (D := g.1) (ci := 12) (v := .ref (q 9)) (C := RX12) (T := TX12) (N := 66) hx hb hts hg_X12_about_X12 hown hK hP 10 rfl rfl 9 (by decide) (hts (.fieldLink RX12 25 "OilPushModel" "area" "[I") (by decide +kernel)) (fun _ h => h) rfl dX12_about_72 ?_
      refine lv_iload_n hx hb dX12_about_75 rfl (lv_at hl 1 rfl) ?_
      refine va_iald hx hb hK hP 2 0 rfl rfl (noCyl_in h7 c1).1 dX12_about_76 ?_
      exact retI C hS () (by unfold r_g_about; rw [if_pos c1, if_neg w2, if_pos w3]) (hP.pick [10, 0, 1, 2, 3, 4, 5, 6, 7, 8, 9] rfl) (hD.sub [10, 0, 1, 2, 3, 4, 5, 6, 7, 8, 9] rfl rfl) (Nat.le_of_ble_eq_true rfl) (Nat.le_of_ble_eq_true rfl) dX12_about_77
    by_cases w4 : what = 2
    · refine lv_tableIn (tgt := 78) (off := 67) hx hb dX12_about_11 (by rw [w4]; decide) (by rw [w4]; decide) (by rw [w4]; rfl) (by decide) ?_
      refine lv_aload_n hx hb dX12_about_78 rfl (lv_at hl 0 rfl) ?_
      refine va_get (D := g.1) (ci := 12) (v := .ref (q 10)) (C := RX12) (T := TX12) (N := 66) hx hb hts hg_X12_about_X12 hown hK hP 10 rfl rfl 10 (by decide) (hts (.fieldLink RX12 28 "OilPushModel" "stroke" "[I") (by decide +kernel)) (fun _ h => h) rfl dX12_about_79 ?_
      refine lv_iload_n hx hb dX12_about_82 rfl (lv_at hl 1 rfl) ?_
      refine va_iald hx hb hK hP 3 0 rfl rfl (noCyl_in h7 c1).1 dX12_about_83 ?_
      exact retI C hS () (by unfold r_g_about; rw [if_pos c1, if_neg w2, if_neg w3, if_pos w4]) (hP.pick [10, 0, 1, 2, 3, 4, 5, 6, 7, 8, 9] rfl) (hD.sub [10, 0, 1, 2, 3, 4, 5, 6, 7, 8, 9] rfl rfl) (Nat.le_of_ble_eq_true rfl) (Nat.le_of_ble_eq_true rfl) dX12_about_84
    by_cases w5 : what = 3
    · refine lv_tableIn (tgt := 85) (off := 74) hx hb dX12_about_11 (by rw [w5]; decide) (by rw [w5]; decide) (by rw [w5]; rfl) (by decide) ?_
      refine lv_aload_n hx hb dX12_about_85 rfl (lv_at hl 0 rfl) ?_
      refine va_get (D := g.1) (ci := 12) (v := .ref (q 11)) (C := RX12) (T := TX12) (N := 66) hx hb hts hg_X12_about_X12 hown hK hP 10 rfl rfl 11 (by decide) (hts (.fieldLink RX12 31 "OilPushModel" "oil" "[I") (by decide +kernel)) (fun _ h => h) rfl dX12_about_86 ?_
      refine lv_iload_n hx hb dX12_about_89 rfl (lv_at hl 1 rfl) ?_
      refine va_iald hx hb hK hP 0 0 rfl rfl (noCyl_in h7 c1).1 dX12_about_90 ?_
      exact retI C hS () (by unfold r_g_about; rw [if_pos c1, if_neg w2, if_neg w3, if_neg w4, if_pos w5]) (hP.pick [10, 0, 1, 2, 3, 4, 5, 6, 7, 8, 9] rfl) (hD.sub [10, 0, 1, 2, 3, 4, 5, 6, 7, 8, 9] rfl rfl) (Nat.le_of_ble_eq_true rfl) (Nat.le_of_ble_eq_true rfl) dX12_about_91
    by_cases w6 : what = 4
    · refine lv_tableIn (tgt := 92) (off := 81) hx hb dX12_about_11 (by rw [w6]; decide) (by rw [w6]; decide) (by rw [w6]; rfl) (by decide) ?_
      refine lv_aload_n hx hb dX12_about_92 rfl (lv_at hl 0 rfl) ?_
      refine lv_iload_n hx hb dX12_about_93 rfl (lv_at hl 1 rfl) ?_
      refine callIV (As := [.int cy]) (rest := []) (wr := [((q 8), .inl (g.2 0, 6, .inl a8)), ((q 14), .inl (g.2 0, 6, .inl a14)), ((q 17), .inl (g.2 0, 6, .inl a17)), ((q 18), .inl (g.2 1, 6, .inl a18)), ((q 19), .inl (g.2 0, 6, .inl a19))]) (Cn := RX12) C (g_loadOf l g h0 q i L a11 a12 a9 a10 a13 cy hM hO (noCyl_in h7 c1).1 (noCyl_in h7 c1).2) 1 gX12_about_X12_loadOf rfl (by decide +kernel) ⟨(Nat.le_of_ble_eq_true rfl), (Nat.le_of_ble_eq_true rfl)⟩ [10, 0, 1, 2, 3, 4] [5, 6, 7, 8, 9] hP hD hA hS rfl rfl rfl rfl (by decide) (k := 10) (ci := 12) rfl rfl rfl rfl hl.1 rfl (Nat.le_of_ble_eq_true rfl) dX12_about_94 ⟨(Nat.le_of_ble_eq_true rfl), (Nat.le_of_ble_eq_true rfl)⟩ (fun r _u H locs hw hP hD hS => ?_)
      have hP : va_P g.1 vwCl [((q 8), .inl (g.2 0, 6, .inl a8)), ((q 14), .inl (g.2 0, 6, .inl a14)), ((q 17), .inl (g.2 0, 6, .inl a17)), ((q 18), .inl (g.2 1, 6, .inl a18)), ((q 19), .inl (g.2 0, 6, .inl a19)), (h0, .inr (12, mO q i L)), ((q 11), .inl (g.2 0, 6, .inl a11)), ((q 12), .inl (g.2 0, 6, .inl a12)), ((q 9), .inl (g.2 0, 6, .inl a9)), ((q 10), .inl (g.2 0, 6, .inl a10)), ((q 13), .inl (g.2 0, 60, .inl a13))] H := hP
      have hD : va_D A [((q 8), .inl (g.2 0, 6, .inl a8)), ((q 14), .inl (g.2 0, 6, .inl a14)), ((q 17), .inl (g.2 0, 6, .inl a17)), ((q 18), .inl (g.2 1, 6, .inl a18)), ((q 19), .inl (g.2 0, 6, .inl a19)), (h0, .inr (12, mO q i L)), ((q 11), .inl (g.2 0, 6, .inl a11)), ((q 12), .inl (g.2 0, 6, .inl a12)), ((q 9), .inl (g.2 0, 6, .inl a9)), ((q 10), .inl (g.2 0, 6, .inl a10)), ((q 13), .inl (g.2 0, 60, .inl a13))] := hD
      subst hw
      exact retI C hS () (by unfold r_g_about; rw [if_pos c1, if_neg w2, if_neg w3, if_neg w4, if_neg w5, if_pos w6]) (hP.pick [5, 6, 7, 8, 9, 10, 0, 1, 2, 3, 4] rfl) (hD.sub [5, 6, 7, 8, 9, 10, 0, 1, 2, 3, 4] rfl rfl) (Nat.le_of_ble_eq_true rfl) (Nat.le_of_ble_eq_true rfl) dX12_about_97
    by_cases w7 : what = 5
    · refine lv_tableIn (tgt := 98) (off := 87) hx hb dX12_about_11 (by rw [w7]; decide) (by rw [w7]; decide) (by rw [w7]; rfl) (by decide) ?_
      refine lv_aload_n hx hb dX12_about_98 rfl (lv_at hl 0 rfl) ?_
      refine lv_iload_n hx hb dX12_about_99 rfl (lv_at hl 1 rfl) ?_
      refine callIV (As := [.int cy]) (rest := []) (wr := [((q 17), .inl (g.2 0, 6, .inl a17)), ((q 18), .inl (g.2 1, 6, .inl a18)), ((q 19), .inl (g.2 0, 6, .inl a19))]) (Cn := RX12) C (g_needOf l g h0 q i L a11 a12 a9 a10 a13 a8 a14 cy hM hO (noCyl_in h7 c1).1 (noCyl_in h7 c1).2) 1 gX12_about_X12_needOf rfl (by decide +kernel) ⟨(Nat.le_of_ble_eq_true rfl), (Nat.le_of_ble_eq_true rfl)⟩ [10, 0, 1, 2, 3, 4, 5, 6] [7, 8, 9] hP hD hA hS rfl rfl rfl rfl (by decide) (k := 10) (ci := 12) rfl rfl rfl rfl hl.1 rfl (Nat.le_of_ble_eq_true rfl) dX12_about_100 ⟨(Nat.le_of_ble_eq_true rfl), (Nat.le_of_ble_eq_true rfl)⟩ (fun r _u H locs hw hP hD hS => ?_)
      have hP : va_P g.1 vwCl [((q 17), .inl (g.2 0, 6, .inl a17)), ((q 18), .inl (g.2 1, 6, .inl a18)), ((q 19), .inl (g.2 0, 6, .inl a19)), (h0, .inr (12, mO q i L)), ((q 11), .inl (g.2 0, 6, .inl a11)), ((q 12), .inl (g.2 0, 6, .inl a12)), ((q 9), .inl (g.2 0, 6, .inl a9)), ((q 10), .inl (g.2 0, 6, .inl a10)), ((q 13), .inl (g.2 0, 60, .inl a13)), ((q 8), .inl (g.2 0, 6, .inl a8)), ((q 14), .inl (g.2 0, 6, .inl a14))] H := hP
      have hD : va_D A [((q 17), .inl (g.2 0, 6, .inl a17)), ((q 18), .inl (g.2 1, 6, .inl a18)), ((q 19), .inl (g.2 0, 6, .inl a19)), (h0, .inr (12, mO q i L)), ((q 11), .inl (g.2 0, 6, .inl a11)), ((q 12), .inl (g.2 0, 6, .inl a12)), ((q 9), .inl (g.2 0, 6, .inl a9)), ((q 10), .inl (g.2 0, 6, .inl a10)), ((q 13), .inl (g.2 0, 60, .inl a13)), ((q 8), .inl (g.2 0, 6, .inl a8)), ((q 14), .inl (g.2 0, 6, .inl a14))] := hD
      subst hw
      exact retI C hS () (by unfold r_g_about; rw [if_pos c1, if_neg w2, if_neg w3, if_neg w4, if_neg w5, if_neg w6, if_pos w7]) (hP.pick [3, 4, 5, 6, 7, 8, 9, 10, 0, 1, 2] rfl) (hD.sub [3, 4, 5, 6, 7, 8, 9, 10, 0, 1, 2] rfl rfl) (Nat.le_of_ble_eq_true rfl) (Nat.le_of_ble_eq_true rfl) dX12_about_103
    by_cases w8 : what = 6
    · refine lv_tableIn (tgt := 104) (off := 93) hx hb dX12_about_11 (by rw [w8]; decide) (by rw [w8]; decide) (by rw [w8]; rfl) (by decide) ?_
      refine lv_aload_n hx hb dX12_about_104 rfl (lv_at hl 0 rfl) ?_
      refine va_get (D := g.1) (ci := 12) (v := .ref (q 17)) (C := RX12) (T := TX12) (N := 66) hx hb hts hg_X12_about_X12 hown hK hP 10 rfl rfl 17 (by decide) (hts (.fieldLink RX12 49 "OilPushModel" "valves" "[I") (by decide +kernel)) (fun _ h => h) rfl dX12_about_105 ?_
      refine lv_iload_n hx hb dX12_about_108 rfl (lv_at hl 1 rfl) ?_
      refine va_iald hx hb hK hP 7 0 rfl rfl (noCyl_in h7 c1).1 dX12_about_109 ?_
      exact retI C hS () (by unfold r_g_about; rw [if_pos c1, if_neg w2, if_neg w3, if_neg w4, if_neg w5, if_neg w6, if_neg w7, if_pos w8]) (hP.pick [10, 0, 1, 2, 3, 4, 5, 6, 7, 8, 9] rfl) (hD.sub [10, 0, 1, 2, 3, 4, 5, 6, 7, 8, 9] rfl rfl) (Nat.le_of_ble_eq_true rfl) (Nat.le_of_ble_eq_true rfl) dX12_about_110
    by_cases w9 : what = 7
    · refine lv_tableIn (tgt := 111) (off := 100) hx hb dX12_about_11 (by rw [w9]; decide) (by rw [w9]; decide) (by rw [w9]; rfl) (by decide) ?_
      refine lv_aload_n hx hb dX12_about_111 rfl (lv_at hl 0 rfl) ?_
      refine va_get (D := g.1) (ci := 12) (v := .ref (q 12)) (C := RX12) (T := TX12) (N := 66) hx hb hts hg_X12_about_X12 hown hK hP 10 rfl rfl 12 (by decide) (hts (.fieldLink RX12 34 "OilPushModel" "loadMany" "[I") (by decide +kernel)) (fun _ h => h) rfl dX12_about_112 ?_
      refine lv_iload_n hx hb dX12_about_115 rfl (lv_at hl 1 rfl) ?_
      refine va_iald hx hb hK hP 1 0 rfl rfl (noCyl_in h7 c1).1 dX12_about_116 ?_
      exact retI C hS () (by unfold r_g_about; rw [if_pos c1, if_neg w2, if_neg w3, if_neg w4, if_neg w5, if_neg w6, if_neg w7, if_neg w8, if_pos w9]) (hP.pick [10, 0, 1, 2, 3, 4, 5, 6, 7, 8, 9] rfl) (hD.sub [10, 0, 1, 2, 3, 4, 5, 6, 7, 8, 9] rfl rfl) (Nat.le_of_ble_eq_true rfl) (Nat.le_of_ble_eq_true rfl) dX12_about_117
    by_cases w10 : what = 8
    · refine lv_tableIn (tgt := 118) (off := 107) hx hb dX12_about_11 (by rw [w10]; decide) (by rw [w10]; decide) (by rw [w10]; rfl) (by decide) ?_
      refine lv_aload_n hx hb dX12_about_118 rfl (lv_at hl 0 rfl) ?_
      refine va_get (D := g.1) (ci := 12) (v := .ref (q 18)) (C := RX12) (T := TX12) (N := 66) hx hb hts hg_X12_about_X12 hown hK hP 10 rfl rfl 18 (by decide) (hts (.fieldLink RX12 52 "OilPushModel" "isBurst" "[Z") (by decide +kernel)) (fun _ h => h) rfl dX12_about_119 ?_
      refine lv_iload_n hx hb dX12_about_122 rfl (lv_at hl 1 rfl) ?_
      refine va_zald hx hb hK hP 8 1 rfl rfl (noCyl_in h7 c1).1 dX12_about_123 ?_
      refine lv_if_eq (tgt := 131) hx hb dX12_about_124 (by decide) (fun c11 => ?_) (fun c11 => ?_)
      · refine lv_iconst (v := 0) hx hb dX12_about_131 (by decide) ?_
        exact retI C hS () (by unfold r_g_about; rw [if_pos c1, if_neg w2, if_neg w3, if_neg w4, if_neg w5, if_neg w6, if_neg w7, if_neg w8, if_neg w9, if_pos w10, if_pos c11]) (hP.pick [10, 0, 1, 2, 3, 4, 5, 6, 7, 8, 9] rfl) (hD.sub [10, 0, 1, 2, 3, 4, 5, 6, 7, 8, 9] rfl rfl) (Nat.le_of_ble_eq_true rfl) (Nat.le_of_ble_eq_true rfl) dX12_about_132
      refine lv_iconst (v := 1) hx hb dX12_about_127 (by decide) ?_
      refine lv_goto (tgt := 132) hx hb dX12_about_128 (by decide) ?_
      exact retI C hS () (by unfold r_g_about; rw [if_pos c1, if_neg w2, if_neg w3, if_neg w4, if_neg w5, if_neg w6, if_neg w7, if_neg w8, if_neg w9, if_pos w10, if_neg c11]) (hP.pick [10, 0, 1, 2, 3, 4, 5, 6, 7, 8, 9] rfl) (hD.sub [10, 0, 1, 2, 3, 4, 5, 6, 7, 8, 9] rfl rfl) (Nat.le_of_ble_eq_true rfl) (Nat.le_of_ble_eq_true rfl) dX12_about_132
    by_cases w12 : what = 9
    · refine lv_tableIn (tgt := 133) (off := 122) hx hb dX12_about_11 (by rw [w12]; decide) (by rw [w12]; decide) (by rw [w12]; rfl) (by decide) ?_
      refine lv_aload_n hx hb dX12_about_133 rfl (lv_at hl 0 rfl) ?_
      refine va_get (D := g.1) (ci := 12) (v := .ref (q 19)) (C := RX12) (T := TX12) (N := 66) hx hb hts hg_X12_about_X12 hown hK hP 10 rfl rfl 19 (by decide) (hts (.fieldLink RX12 56 "OilPushModel" "took" "[I") (by decide +kernel)) (fun _ h => h) rfl dX12_about_134 ?_
      refine lv_iload_n hx hb dX12_about_137 rfl (lv_at hl 1 rfl) ?_
      refine va_iald hx hb hK hP 9 0 rfl rfl (noCyl_in h7 c1).1 dX12_about_138 ?_
      exact retI C hS () (by unfold r_g_about; rw [if_pos c1, if_neg w2, if_neg w3, if_neg w4, if_neg w5, if_neg w6, if_neg w7, if_neg w8, if_neg w9, if_neg w10, if_pos w12]) (hP.pick [10, 0, 1, 2, 3, 4, 5, 6, 7, 8, 9] rfl) (hD.sub [10, 0, 1, 2, 3, 4, 5, 6, 7, 8, 9] rfl rfl) (Nat.le_of_ble_eq_true rfl) (Nat.le_of_ble_eq_true rfl) dX12_about_139
    refine lv_tableOut (tgt := 140) hx hb dX12_about_11 (sw9 w2 w3 w4 w5 w6 w7 w8 w9 w10 w12) (by decide) ?_
    refine lv_bipush (v := -2) hx hb dX12_about_140 (by decide) ?_
    exact retI C hS () (by unfold r_g_about; rw [if_pos c1, if_neg w2, if_neg w3, if_neg w4, if_neg w5, if_neg w6, if_neg w7, if_neg w8, if_neg w9, if_neg w10, if_neg w12]) (hP.pick [10, 0, 1, 2, 3, 4, 5, 6, 7, 8, 9] rfl) (hD.sub [10, 0, 1, 2, 3, 4, 5, 6, 7, 8, 9] rfl rfl) (Nat.le_of_ble_eq_true rfl) (Nat.le_of_ble_eq_true rfl) dX12_about_142
  refine lv_iconst (v := -1) hx hb dX12_about_8 (by decide) ?_
  exact retI C hS () (by unfold r_g_about; rw [if_neg c1]) (hP.pick [10, 0, 1, 2, 3, 4, 5, 6, 7, 8, 9] rfl) (hD.sub [10, 0, 1, 2, 3, 4, 5, 6, 7, 8, 9] rfl rfl) (Nat.le_of_ble_eq_true rfl) (Nat.le_of_ble_eq_true rfl) dX12_about_9
theorem in_lt {x y : Int32} {n : Nat} (hy : 0 ≤ y.toInt ∧ y.toInt ≤ n) (h : ¬ r_c_in x.toInt64 0 (y.toInt64 - 1) = 0) : vp_in x n := by
  rw [in_eq] at h
  have h1 := Int32.toInt_lt y
  have e : (y.toInt64 - 1).toInt = y.toInt - 1 := by
    rw [Int64.toInt_sub, Int32.toInt_toInt64, show (1 : Int64).toInt = 1 from by decide, Int.bmod_eq_of_le] <;> omega
  rw [e, Int32.toInt_toInt64, show (0 : Int64).toInt = 0 from by decide] at h
  rw [vp_in_iff]
  by_cases h2 : 0 ≤ x.toInt ∧ x.toInt ≤ y.toInt - 1
  · omega
  · rw [if_neg h2] at h; exact absurd rfl h
theorem at_full {x y : Int32} {n : Nat} (hy : y.toInt = n) (hx : 0 ≤ x.toInt ∧ x.toInt ≤ n) (h : ¬ x = y) : vp_in x n := by
  rw [vp_in_iff]
  have : ¬ x.toInt = y.toInt := fun e => h (Int32.toInt_inj.mp e)
  omega
theorem hg_X12_storePressure_X12 : ∀ w ∈ wsX120, w ∈ wsX12_storePressure := fun w h => List.mem_cons_of_mem _ (List.mem_append_right _ h)
set_option maxRecDepth 100000 in
set_option maxHeartbeats 4000000 in
theorem g_storePressure (l : Launch) (g : Gt) (h0 : Nat) (q : Nat → Nat) (i : Nat → Int32) (L : Nat → Int64) (h22 : ¬ (i 22) = 0) : Ctr l g yX12_storePressure wsX12_storePressure ({ frames := 0, cells := 0, slots := 0, locals := 0 } : Room) [.ref h0] [(h0, .inr (12, mO q i L))] (fun A => QI g A (fun r (_ : Unit) => r = ((i 21) + ((i 23) / (i 22)))) (fun _u : Unit => [(h0, .inr (12, mO q i L))])) := by
  refine Ctr.of (cc := cX12_storePressure) (maxL := 1) (ret := (some .int)) (by decide) rfl (Nat.le_of_ble_eq_true rfl) ?_
  intro p e s m below meth c A ls H C hP hD hA hS hl
  obtain ⟨hx, hb, hr, hts, hown, hlocks, hml, hin, hKN⟩ := id C
  have hK := hKN.1
  have hN := hKN.2
  have F : CallFix p m c cX12_storePressure 1 s _ wsX12_storePressure yX12_storePressure.cls := ⟨hx, hb, hml, hown, hts⟩
  have hl : lv_has ls 1 [(0, .ref h0)] := hl
  refine lv_aload_n hx hb dX12_storePressure_0 rfl (lv_at hl 0 rfl) ?_
  refine va_get (D := g.1) (ci := 12) (v := .int (i 21)) (C := RX12) (T := TX12) (N := 66) hx hb hts hg_X12_storePressure_X12 hown hK hP 0 rfl rfl 21 (by decide) (hts (.fieldLink RX12 209 "OilPushModel" "first" "I") (by decide +kernel)) (fun _ h => h) rfl dX12_storePressure_1 ?_
  refine lv_aload_n hx hb dX12_storePressure_4 rfl (lv_at hl 0 rfl) ?_
  refine va_get (D := g.1) (ci := 12) (v := .int (i 23)) (C := RX12) (T := TX12) (N := 66) hx hb hts hg_X12_storePressure_X12 hown hK hP 0 rfl rfl 23 (by decide) (hts (.fieldLink RX12 203 "OilPushModel" "kept" "I") (by decide +kernel)) (fun _ h => h) rfl dX12_storePressure_5 ?_
  refine lv_aload_n hx hb dX12_storePressure_8 rfl (lv_at hl 0 rfl) ?_
  refine va_get (D := g.1) (ci := 12) (v := .int (i 22)) (C := RX12) (T := TX12) (N := 66) hx hb hts hg_X12_storePressure_X12 hown hK hP 0 rfl rfl 22 (by decide) (hts (.fieldLink RX12 133 "OilPushModel" "stiff" "I") (by decide +kernel)) (fun _ h => h) rfl dX12_storePressure_9 ?_
  refine lv_idiv hx hb dX12_storePressure_12 h22 ?_
  refine lv_iadd hx hb dX12_storePressure_13 ?_
  exact retI C hS () rfl (hP.pick [0] rfl) (hD.sub [0] rfl rfl) (Nat.le_of_ble_eq_true rfl) (Nat.le_of_ble_eq_true rfl) dX12_storePressure_14
theorem hg_X12_sum_X12 : ∀ w ∈ wsX120, w ∈ wsX12_sum := fun w h => List.mem_cons_of_mem _ (List.mem_append_right _ h)
def r_g_sum (i : Nat → Int32) (L : Nat → Int64) (what : Int32) : Int64 := (if what = 0 then (L 37) else (if what = 1 then (L 38) else (if what = 2 then (L 39) else (if what = 3 then (Int32.toInt64 (i 23)) else (if what = 4 then (Int32.toInt64 ((i 21) + ((i 23) / (i 22)))) else (-9223372036854775808))))))
set_option maxRecDepth 100000 in
set_option maxHeartbeats 4000000 in
theorem g_sum (l : Launch) (g : Gt) (h0 : Nat) (q : Nat → Nat) (i : Nat → Int32) (L : Nat → Int64) (what : Int32) (h22 : ¬ (i 22) = 0) : Ctr l g yX12_sum wsX12_sum ({ frames := 1, cells := 0, slots := 0, locals := 20 } : Room) [.ref h0, .int what] [(h0, .inr (12, mO q i L))] (fun A => QL g A (fun r (_ : Unit) => r = (r_g_sum i L what)) (fun _u : Unit => [(h0, .inr (12, mO q i L))])) := by
  refine Ctr.of (cc := cX12_sum) (maxL := 2) (ret := (some .long)) (by decide) rfl (Nat.le_of_ble_eq_true rfl) ?_
  intro p e s m below meth c A ls H C hP hD hA hS hl
  obtain ⟨hx, hb, hr, hts, hown, hlocks, hml, hin, hKN⟩ := id C
  have hK := hKN.1
  have hN := hKN.2
  have F : CallFix p m c cX12_sum 2 s _ wsX12_sum yX12_sum.cls := ⟨hx, hb, hml, hown, hts⟩
  have hl : lv_has ls 2 [(0, .ref h0), (1, .int what)] := hl
  refine lv_iload_n hx hb dX12_sum_0 rfl (lv_at hl 1 rfl) ?_
  by_cases w1 : what = 0
  · refine lv_tableIn (tgt := 36) (off := 35) hx hb dX12_sum_1 (by rw [w1]; decide) (by rw [w1]; decide) (by rw [w1]; rfl) (by decide) ?_
    refine lv_aload_n hx hb dX12_sum_36 rfl (lv_at hl 0 rfl) ?_
    refine va_get (D := g.1) (ci := 12) (v := .long (L 37)) (C := RX12) (T := TX12) (N := 66) hx hb hts hg_X12_sum_X12 hown hK hP 0 rfl rfl 37 (by decide) (hts (.fieldLink RX12 259 "OilPushModel" "heat" "J") (by decide +kernel)) (fun _ h => h) rfl dX12_sum_37 ?_
    exact retL C hS () (by unfold r_g_sum; rw [if_pos w1]) (hP.pick [0] rfl) (hD.sub [0] rfl rfl) (Nat.le_of_ble_eq_true rfl) (Nat.le_of_ble_eq_true rfl) dX12_sum_40
  by_cases w2 : what = 1
  · refine lv_tableIn (tgt := 41) (off := 40) hx hb dX12_sum_1 (by rw [w2]; decide) (by rw [w2]; decide) (by rw [w2]; rfl) (by decide) ?_
    refine lv_aload_n hx hb dX12_sum_41 rfl (lv_at hl 0 rfl) ?_
    refine va_get (D := g.1) (ci := 12) (v := .long (L 38)) (C := RX12) (T := TX12) (N := 66) hx hb hts hg_X12_sum_X12 hown hK hP 0 rfl rfl 38 (by decide) (hts (.fieldLink RX12 263 "OilPushModel" "work" "J") (by decide +kernel)) (fun _ h => h) rfl dX12_sum_42 ?_
    exact retL C hS () (by unfold r_g_sum; rw [if_neg w1, if_pos w2]) (hP.pick [0] rfl) (hD.sub [0] rfl rfl) (Nat.le_of_ble_eq_true rfl) (Nat.le_of_ble_eq_true rfl) dX12_sum_45
  by_cases w3 : what = 2
  · refine lv_tableIn (tgt := 46) (off := 45) hx hb dX12_sum_1 (by rw [w3]; decide) (by rw [w3]; decide) (by rw [w3]; rfl) (by decide) ?_
    refine lv_aload_n hx hb dX12_sum_46 rfl (lv_at hl 0 rfl) ?_
    refine va_get (D := g.1) (ci := 12) (v := .long (L 39)) (C := RX12) (T := TX12) (N := 66) hx hb hts hg_X12_sum_X12 hown hK hP 0 rfl rfl 39 (by decide) (hts (.fieldLink RX12 266 "OilPushModel" "given" "J") (by decide +kernel)) (fun _ h => h) rfl dX12_sum_47 ?_
    exact retL C hS () (by unfold r_g_sum; rw [if_neg w1, if_neg w2, if_pos w3]) (hP.pick [0] rfl) (hD.sub [0] rfl rfl) (Nat.le_of_ble_eq_true rfl) (Nat.le_of_ble_eq_true rfl) dX12_sum_50
  by_cases w4 : what = 3
  · refine lv_tableIn (tgt := 51) (off := 50) hx hb dX12_sum_1 (by rw [w4]; decide) (by rw [w4]; decide) (by rw [w4]; rfl) (by decide) ?_
    refine lv_aload_n hx hb dX12_sum_51 rfl (lv_at hl 0 rfl) ?_
    refine va_get (D := g.1) (ci := 12) (v := .int (i 23)) (C := RX12) (T := TX12) (N := 66) hx hb hts hg_X12_sum_X12 hown hK hP 0 rfl rfl 23 (by decide) (hts (.fieldLink RX12 203 "OilPushModel" "kept" "I") (by decide +kernel)) (fun _ h => h) rfl dX12_sum_52 ?_
    refine lv_i2l hx hb dX12_sum_55 rfl ?_
    exact retL C hS () (by unfold r_g_sum; rw [if_neg w1, if_neg w2, if_neg w3, if_pos w4]) (hP.pick [0] rfl) (hD.sub [0] rfl rfl) (Nat.le_of_ble_eq_true rfl) (Nat.le_of_ble_eq_true rfl) dX12_sum_56
  by_cases w5 : what = 4
  · refine lv_tableIn (tgt := 57) (off := 56) hx hb dX12_sum_1 (by rw [w5]; decide) (by rw [w5]; decide) (by rw [w5]; rfl) (by decide) ?_
    refine lv_aload_n hx hb dX12_sum_57 rfl (lv_at hl 0 rfl) ?_
    refine callIV (As := []) (rest := []) (wr := []) (Cn := RX12) C (g_storePressure l g h0 q i L h22) 0 gX12_sum_X12_storePressure rfl (by decide +kernel) ⟨(Nat.le_of_ble_eq_true rfl), (Nat.le_of_ble_eq_true rfl)⟩ [0] [] hP hD hA hS rfl rfl rfl rfl (by decide) (k := 0) (ci := 12) rfl rfl rfl rfl hl.1 rfl (Nat.le_of_ble_eq_true rfl) dX12_sum_58 ⟨(Nat.le_of_ble_eq_true rfl), (Nat.le_of_ble_eq_true rfl)⟩ (fun r _u H locs hw hP hD hS => ?_)
    have hP : va_P g.1 vwCl [(h0, .inr (12, mO q i L))] H := hP
    have hD : va_D A [(h0, .inr (12, mO q i L))] := hD
    subst hw
    refine lv_i2l hx hb dX12_sum_61 rfl ?_
    exact retL C hS () (by unfold r_g_sum; rw [if_neg w1, if_neg w2, if_neg w3, if_neg w4, if_pos w5]) (hP.pick [0] rfl) (hD.sub [0] rfl rfl) (Nat.le_of_ble_eq_true rfl) (Nat.le_of_ble_eq_true rfl) dX12_sum_62
  refine lv_tableOut (tgt := 63) hx hb dX12_sum_1 (sw4 w1 w2 w3 w4 w5) (by decide) ?_
  refine pureLS (As := []) (rest := []) F (c_lost l) 0 gX12_sum_X12_lost rfl (by decide +kernel) rfl rfl ⟨(Nat.le_of_ble_eq_true rfl), (Nat.le_of_ble_eq_true rfl)⟩ (Nat.le_of_ble_eq_true rfl) (Nat.le_of_ble_eq_true rfl) rfl hl.1 rfl (Nat.le_of_ble_eq_true rfl) dX12_sum_63 ?_
  exact retL C hS () (by unfold r_g_sum; rw [if_neg w1, if_neg w2, if_neg w3, if_neg w4, if_neg w5]) (hP.pick [0] rfl) (hD.sub [0] rfl rfl) (Nat.le_of_ble_eq_true rfl) (Nat.le_of_ble_eq_true rfl) dX12_sum_66
theorem hg_X12_mover_X12 : ∀ w ∈ wsX120, w ∈ wsX12_mover := fun w h => List.mem_cons_of_mem _ (List.mem_append_right _ h)
def r_g_mover (i : Nat → Int32) (a36 : Nat → Int32) (ii : Int32) : Int32 := (if (r_c_in (Int32.toInt64 ii) 0 ((Int32.toInt64 (i 35)) - 1)) = 0 then (-1) else (a36 (ii.toNatClampNeg)))
set_option maxRecDepth 100000 in
set_option maxHeartbeats 4000000 in
theorem g_mover (l : Launch) (g : Gt) (h0 : Nat) (q : Nat → Nat) (i : Nat → Int32) (L : Nat → Int64) (a36 : Nat → Int32) (ii : Int32) (h35 : 0 ≤ (i 35).toInt ∧ (i 35).toInt ≤ 6) : Ctr l g yX12_mover wsX12_mover ({ frames := 1, cells := 0, slots := 0, locals := 25 } : Room) [.ref h0, .int ii] [(h0, .inr (12, mO q i L)), ((q 36), .inl (g.2 0, 6, .inl a36))] (fun A => QI g A (fun r (_ : Unit) => r = (r_g_mover i a36 ii)) (fun _u : Unit => [(h0, .inr (12, mO q i L)), ((q 36), .inl (g.2 0, 6, .inl a36))])) := by
  refine Ctr.of (cc := cX12_mover) (maxL := 2) (ret := (some .int)) (by decide) rfl (Nat.le_of_ble_eq_true rfl) ?_
  intro p e s m below meth c A ls H C hP hD hA hS hl
  obtain ⟨hx, hb, hr, hts, hown, hlocks, hml, hin, hKN⟩ := id C
  have hK := hKN.1
  have hN := hKN.2
  have F : CallFix p m c cX12_mover 2 s _ wsX12_mover yX12_mover.cls := ⟨hx, hb, hml, hown, hts⟩
  have hl : lv_has ls 2 [(0, .ref h0), (1, .int ii)] := hl
  refine lv_iload_n hx hb dX12_mover_0 rfl (lv_at hl 1 rfl) ?_
  refine lv_i2l hx hb dX12_mover_1 rfl ?_
  refine lv_lconst (v := 0) hx hb dX12_mover_2 (by decide) ?_
  refine lv_aload_n hx hb dX12_mover_3 rfl (lv_at hl 0 rfl) ?_
  refine va_get (D := g.1) (ci := 12) (v := .int (i 35)) (C := RX12) (T := TX12) (N := 66) hx hb hts hg_X12_mover_X12 hown hK hP 0 rfl rfl 35 (by decide) (hts (.fieldLink RX12 246 "OilPushModel" "movers" "I") (by decide +kernel)) (fun _ h => h) rfl dX12_mover_4 ?_
  refine lv_i2l hx hb dX12_mover_7 rfl ?_
  refine lv_lconst (v := 1) hx hb dX12_mover_8 (by decide) ?_
  refine lv_lsub hx hb dX12_mover_9 ?_
  refine pureIS (As := [.long (Int32.toInt64 ii), .long 0, .long ((Int32.toInt64 (i 35)) - 1)]) (rest := []) F (c_in l (Int32.toInt64 ii) 0 ((Int32.toInt64 (i 35)) - 1)) 3 gX12_mover_X12_in rfl (by decide +kernel) rfl rfl ⟨(Nat.le_of_ble_eq_true rfl), (Nat.le_of_ble_eq_true rfl)⟩ (Nat.le_of_ble_eq_true rfl) (Nat.le_of_ble_eq_true rfl) rfl hl.1 rfl (Nat.le_of_ble_eq_true rfl) dX12_mover_10 ?_
  refine lv_if_eq (tgt := 25) hx hb dX12_mover_13 (by decide) (fun c1 => ?_) (fun c1 => ?_)
  · refine lv_iconst (v := -1) hx hb dX12_mover_25 (by decide) ?_
    exact retI C hS () (by unfold r_g_mover; rw [if_pos c1]) (hP.pick [0, 1] rfl) (hD.sub [0, 1] rfl rfl) (Nat.le_of_ble_eq_true rfl) (Nat.le_of_ble_eq_true rfl) dX12_mover_26
  refine lv_aload_n hx hb dX12_mover_16 rfl (lv_at hl 0 rfl) ?_
  refine va_get (D := g.1) (ci := 12) (v := .ref (q 36)) (C := RX12) (T := TX12) (N := 66) hx hb hts hg_X12_mover_X12 hown hK hP 0 rfl rfl 36 (by decide) (hts (.fieldLink RX12 71 "OilPushModel" "mover" "[I") (by decide +kernel)) (fun _ h => h) rfl dX12_mover_17 ?_
  refine lv_iload_n hx hb dX12_mover_20 rfl (lv_at hl 1 rfl) ?_
  refine va_iald hx hb hK hP 1 0 rfl rfl (in_lt h35 c1) dX12_mover_21 ?_
  refine lv_goto (tgt := 26) hx hb dX12_mover_22 (by decide) ?_
  exact retI C hS () (by unfold r_g_mover; rw [if_neg c1]) (hP.pick [0, 1] rfl) (hD.sub [0, 1] rfl rfl) (Nat.le_of_ble_eq_true rfl) (Nat.le_of_ble_eq_true rfl) dX12_mover_26
theorem hg_X12_cylinder_X12 : ∀ w ∈ wsX120, w ∈ wsX12_cylinder := fun w h => List.mem_cons_of_mem _ (List.mem_append_right _ h)
def r_g_cylinder (i : Nat → Int32) (kd : Int32) (ar : Int32) (sk : Int32) : Int32 := (if (r_c_in (Int32.toInt64 kd) 0 2) = 0 then (-2) else (if (r_c_in (Int32.toInt64 ar) 1 100) = 0 then (-2) else (if (r_c_in (Int32.toInt64 sk) 1 100) = 0 then (-2) else (if (i 7) = 6 then (-4) else (((i 7) + 1) - 1)))))
def o_g_cylinder_7 (i : Nat → Int32) (kd : Int32) (ar : Int32) (sk : Int32) : Int32 := (if (r_c_in (Int32.toInt64 kd) 0 2) = 0 then (i 7) else (if (r_c_in (Int32.toInt64 ar) 1 100) = 0 then (i 7) else (if (r_c_in (Int32.toInt64 sk) 1 100) = 0 then (i 7) else (if (i 7) = 6 then (i 7) else ((i 7) + 1)))))
def o_g_cylinder_q8 (i : Nat → Int32) (a8 : Nat → Int32) (kd : Int32) (ar : Int32) (sk : Int32) : Nat → Int32 := (if (r_c_in (Int32.toInt64 kd) 0 2) = 0 then a8 else (if (r_c_in (Int32.toInt64 ar) 1 100) = 0 then a8 else (if (r_c_in (Int32.toInt64 sk) 1 100) = 0 then a8 else (if (i 7) = 6 then a8 else (upd a8 ((i 7).toNatClampNeg) kd)))))
def o_g_cylinder_q9 (i : Nat → Int32) (a9 : Nat → Int32) (kd : Int32) (ar : Int32) (sk : Int32) : Nat → Int32 := (if (r_c_in (Int32.toInt64 kd) 0 2) = 0 then a9 else (if (r_c_in (Int32.toInt64 ar) 1 100) = 0 then a9 else (if (r_c_in (Int32.toInt64 sk) 1 100) = 0 then a9 else (if (i 7) = 6 then a9 else (upd a9 ((i 7).toNatClampNeg) ar)))))
def o_g_cylinder_q10 (i : Nat → Int32) (a10 : Nat → Int32) (kd : Int32) (ar : Int32) (sk : Int32) : Nat → Int32 := (if (r_c_in (Int32.toInt64 kd) 0 2) = 0 then a10 else (if (r_c_in (Int32.toInt64 ar) 1 100) = 0 then a10 else (if (r_c_in (Int32.toInt64 sk) 1 100) = 0 then a10 else (if (i 7) = 6 then a10 else (upd a10 ((i 7).toNatClampNeg) sk)))))
def o_g_cylinder_q12 (i : Nat → Int32) (a12 : Nat → Int32) (kd : Int32) (ar : Int32) (sk : Int32) : Nat → Int32 := (if (r_c_in (Int32.toInt64 kd) 0 2) = 0 then a12 else (if (r_c_in (Int32.toInt64 ar) 1 100) = 0 then a12 else (if (r_c_in (Int32.toInt64 sk) 1 100) = 0 then a12 else (if (i 7) = 6 then a12 else (upd a12 ((i 7).toNatClampNeg) 1)))))
def o_g_cylinder_q15 (i : Nat → Int32) (a15 : Nat → Int32) (kd : Int32) (ar : Int32) (sk : Int32) : Nat → Int32 := (if (r_c_in (Int32.toInt64 kd) 0 2) = 0 then a15 else (if (r_c_in (Int32.toInt64 ar) 1 100) = 0 then a15 else (if (r_c_in (Int32.toInt64 sk) 1 100) = 0 then a15 else (if (i 7) = 6 then a15 else (upd a15 ((i 7).toNatClampNeg) 1000)))))
set_option maxRecDepth 100000 in
set_option maxHeartbeats 4000000 in
theorem g_cylinder (l : Launch) (g : Gt) (h0 : Nat) (q : Nat → Nat) (i : Nat → Int32) (L : Nat → Int64) (a8 : Nat → Int32) (a9 : Nat → Int32) (a10 : Nat → Int32) (a12 : Nat → Int32) (a15 : Nat → Int32) (kd : Int32) (ar : Int32) (sk : Int32) (h7 : 0 ≤ (i 7).toInt ∧ (i 7).toInt ≤ 6) : Ctr l g yX12_cylinder wsX12_cylinder ({ frames := 1, cells := 0, slots := 0, locals := 25 } : Room) [.ref h0, .int kd, .int ar, .int sk] [(h0, .inr (12, mO q i L)), ((q 8), .inl (g.2 0, 6, .inl a8)), ((q 9), .inl (g.2 0, 6, .inl a9)), ((q 10), .inl (g.2 0, 6, .inl a10)), ((q 12), .inl (g.2 0, 6, .inl a12)), ((q 15), .inl (g.2 0, 6, .inl a15))] (fun A => QI g A (fun r (_ : Unit) => r = (r_g_cylinder i kd ar sk)) (fun _u : Unit => [(h0, .inr (12, mO q (upd i 7 (o_g_cylinder_7 i kd ar sk)) L)), ((q 8), .inl (g.2 0, 6, .inl (o_g_cylinder_q8 i a8 kd ar sk))), ((q 9), .inl (g.2 0, 6, .inl (o_g_cylinder_q9 i a9 kd ar sk))), ((q 10), .inl (g.2 0, 6, .inl (o_g_cylinder_q10 i a10 kd ar sk))), ((q 12), .inl (g.2 0, 6, .inl (o_g_cylinder_q12 i a12 kd ar sk))), ((q 15), .inl (g.2 0, 6, .inl (o_g_cylinder_q15 i a15 kd ar sk)))])) := by
  refine Ctr.of (cc := cX12_cylinder) (maxL := 4) (ret := (some .int)) (by decide) rfl (Nat.le_of_ble_eq_true rfl) ?_
  intro p e s m below meth c A ls H C hP hD hA hS hl
  obtain ⟨hx, hb, hr, hts, hown, hlocks, hml, hin, hKN⟩ := id C
  have hK := hKN.1
  have hN := hKN.2
  have F : CallFix p m c cX12_cylinder 4 s _ wsX12_cylinder yX12_cylinder.cls := ⟨hx, hb, hml, hown, hts⟩
  have hl : lv_has ls 4 [(0, .ref h0), (1, .int kd), (2, .int ar), (3, .int sk)] := hl
  refine lv_iload_n hx hb dX12_cylinder_0 rfl (lv_at hl 1 rfl) ?_
  refine lv_i2l hx hb dX12_cylinder_1 rfl ?_
  refine lv_lconst (v := 0) hx hb dX12_cylinder_2 (by decide) ?_
  refine lv_ldc2 (v := 2) hx hb hown (hts (.constantLong RX12 162 (2)) (by decide +kernel)) dX12_cylinder_3 ?_
  refine pureIS (As := [.long (Int32.toInt64 kd), .long 0, .long 2]) (rest := []) F (c_in l (Int32.toInt64 kd) 0 2) 3 gX12_cylinder_X12_in rfl (by decide +kernel) rfl rfl ⟨(Nat.le_of_ble_eq_true rfl), (Nat.le_of_ble_eq_true rfl)⟩ (Nat.le_of_ble_eq_true rfl) (Nat.le_of_ble_eq_true rfl) rfl hl.1 rfl (Nat.le_of_ble_eq_true rfl) dX12_cylinder_6 ?_
  refine lv_if_eq (tgt := 36) hx hb dX12_cylinder_9 (by decide) (fun c1 => ?_) (fun c1 => ?_)
  · refine lv_bipush (v := -2) hx hb dX12_cylinder_36 (by decide) ?_
    have e90 : (o_g_cylinder_7 i kd ar sk) = (i 7) := by unfold o_g_cylinder_7; rw [if_pos c1]
    have e91 : (o_g_cylinder_q8 i a8 kd ar sk) = a8 := by unfold o_g_cylinder_q8; rw [if_pos c1]
    have e92 : (o_g_cylinder_q9 i a9 kd ar sk) = a9 := by unfold o_g_cylinder_q9; rw [if_pos c1]
    have e93 : (o_g_cylinder_q10 i a10 kd ar sk) = a10 := by unfold o_g_cylinder_q10; rw [if_pos c1]
    have e94 : (o_g_cylinder_q12 i a12 kd ar sk) = a12 := by unfold o_g_cylinder_q12; rw [if_pos c1]
    have e95 : (o_g_cylinder_q15 i a15 kd ar sk) = a15 := by unfold o_g_cylinder_q15; rw [if_pos c1]
    have hP : va_P g.1 vwCl [(h0, .inr (12, mO q (upd i 7 (o_g_cylinder_7 i kd ar sk)) L)), ((q 8), .inl (g.2 0, 6, .inl (o_g_cylinder_q8 i a8 kd ar sk))), ((q 9), .inl (g.2 0, 6, .inl (o_g_cylinder_q9 i a9 kd ar sk))), ((q 10), .inl (g.2 0, 6, .inl (o_g_cylinder_q10 i a10 kd ar sk))), ((q 12), .inl (g.2 0, 6, .inl (o_g_cylinder_q12 i a12 kd ar sk))), ((q 15), .inl (g.2 0, 6, .inl (o_g_cylinder_q15 i a15 kd ar sk)))] H := by rw [e90, e91, e92, e93, e94, e95]; exact hP
    have hD : va_D A [(h0, .inr (12, mO q (upd i 7 (o_g_cylinder_7 i kd ar sk)) L)), ((q 8), .inl (g.2 0, 6, .inl (o_g_cylinder_q8 i a8 kd ar sk))), ((q 9), .inl (g.2 0, 6, .inl (o_g_cylinder_q9 i a9 kd ar sk))), ((q 10), .inl (g.2 0, 6, .inl (o_g_cylinder_q10 i a10 kd ar sk))), ((q 12), .inl (g.2 0, 6, .inl (o_g_cylinder_q12 i a12 kd ar sk))), ((q 15), .inl (g.2 0, 6, .inl (o_g_cylinder_q15 i a15 kd ar sk)))] := by rw [e90, e91, e92, e93, e94, e95]; exact hD
    exact retI C hS () (by unfold r_g_cylinder; rw [if_pos c1]) (hP.pick [0, 1, 2, 3, 4, 5] rfl) (hD.sub [0, 1, 2, 3, 4, 5] rfl rfl) (Nat.le_of_ble_eq_true rfl) (Nat.le_of_ble_eq_true rfl) dX12_cylinder_38
  refine lv_iload_n hx hb dX12_cylinder_12 rfl (lv_at hl 2 rfl) ?_
  refine lv_i2l hx hb dX12_cylinder_13 rfl ?_
  refine lv_lconst (v := 1) hx hb dX12_cylinder_14 (by decide) ?_
  refine lv_ldc2 (v := 100) hx hb hown (hts (.constantLong RX12 187 (100)) (by decide +kernel)) dX12_cylinder_15 ?_
  refine pureIS (As := [.long (Int32.toInt64 ar), .long 1, .long 100]) (rest := []) F (c_in l (Int32.toInt64 ar) 1 100) 3 gX12_cylinder_X12_in rfl (by decide +kernel) rfl rfl ⟨(Nat.le_of_ble_eq_true rfl), (Nat.le_of_ble_eq_true rfl)⟩ (Nat.le_of_ble_eq_true rfl) (Nat.le_of_ble_eq_true rfl) rfl hl.1 rfl (Nat.le_of_ble_eq_true rfl) dX12_cylinder_18 ?_
  refine lv_if_eq (tgt := 36) hx hb dX12_cylinder_21 (by decide) (fun c2 => ?_) (fun c2 => ?_)
  · refine lv_bipush (v := -2) hx hb dX12_cylinder_36 (by decide) ?_
    have e90 : (o_g_cylinder_7 i kd ar sk) = (i 7) := by unfold o_g_cylinder_7; rw [if_neg c1, if_pos c2]
    have e91 : (o_g_cylinder_q8 i a8 kd ar sk) = a8 := by unfold o_g_cylinder_q8; rw [if_neg c1, if_pos c2]
    have e92 : (o_g_cylinder_q9 i a9 kd ar sk) = a9 := by unfold o_g_cylinder_q9; rw [if_neg c1, if_pos c2]
    have e93 : (o_g_cylinder_q10 i a10 kd ar sk) = a10 := by unfold o_g_cylinder_q10; rw [if_neg c1, if_pos c2]
    have e94 : (o_g_cylinder_q12 i a12 kd ar sk) = a12 := by unfold o_g_cylinder_q12; rw [if_neg c1, if_pos c2]
    have e95 : (o_g_cylinder_q15 i a15 kd ar sk) = a15 := by unfold o_g_cylinder_q15; rw [if_neg c1, if_pos c2]
    have hP : va_P g.1 vwCl [(h0, .inr (12, mO q (upd i 7 (o_g_cylinder_7 i kd ar sk)) L)), ((q 8), .inl (g.2 0, 6, .inl (o_g_cylinder_q8 i a8 kd ar sk))), ((q 9), .inl (g.2 0, 6, .inl (o_g_cylinder_q9 i a9 kd ar sk))), ((q 10), .inl (g.2 0, 6, .inl (o_g_cylinder_q10 i a10 kd ar sk))), ((q 12), .inl (g.2 0, 6, .inl (o_g_cylinder_q12 i a12 kd ar sk))), ((q 15), .inl (g.2 0, 6, .inl (o_g_cylinder_q15 i a15 kd ar sk)))] H := by rw [e90, e91, e92, e93, e94, e95]; exact hP
    have hD : va_D A [(h0, .inr (12, mO q (upd i 7 (o_g_cylinder_7 i kd ar sk)) L)), ((q 8), .inl (g.2 0, 6, .inl (o_g_cylinder_q8 i a8 kd ar sk))), ((q 9), .inl (g.2 0, 6, .inl (o_g_cylinder_q9 i a9 kd ar sk))), ((q 10), .inl (g.2 0, 6, .inl (o_g_cylinder_q10 i a10 kd ar sk))), ((q 12), .inl (g.2 0, 6, .inl (o_g_cylinder_q12 i a12 kd ar sk))), ((q 15), .inl (g.2 0, 6, .inl (o_g_cylinder_q15 i a15 kd ar sk)))] := by rw [e90, e91, e92, e93, e94, e95]; exact hD
    exact retI C hS () (by unfold r_g_cylinder; rw [if_neg c1, if_pos c2]) (hP.pick [0, 1, 2, 3, 4, 5] rfl) (hD.sub [0, 1, 2, 3, 4, 5] rfl rfl) (Nat.le_of_ble_eq_true rfl) (Nat.le_of_ble_eq_true rfl) dX12_cylinder_38
  refine lv_iload_n hx hb dX12_cylinder_24 rfl (lv_at hl 3 rfl) ?_
  refine lv_i2l hx hb dX12_cylinder_25 rfl ?_
  refine lv_lconst (v := 1) hx hb dX12_cylinder_26 (by decide) ?_
  refine lv_ldc2 (v := 100) hx hb hown (hts (.constantLong RX12 187 (100)) (by decide +kernel)) dX12_cylinder_27 ?_
  refine pureIS (As := [.long (Int32.toInt64 sk), .long 1, .long 100]) (rest := []) F (c_in l (Int32.toInt64 sk) 1 100) 3 gX12_cylinder_X12_in rfl (by decide +kernel) rfl rfl ⟨(Nat.le_of_ble_eq_true rfl), (Nat.le_of_ble_eq_true rfl)⟩ (Nat.le_of_ble_eq_true rfl) (Nat.le_of_ble_eq_true rfl) rfl hl.1 rfl (Nat.le_of_ble_eq_true rfl) dX12_cylinder_30 ?_
  refine lv_if_ne (tgt := 39) hx hb dX12_cylinder_33 (by decide) (fun c3 => ?_) (fun c3 => ?_)
  · refine lv_aload_n hx hb dX12_cylinder_39 rfl (lv_at hl 0 rfl) ?_
    refine va_get (D := g.1) (ci := 12) (v := .int (i 7)) (C := RX12) (T := TX12) (N := 66) hx hb hts hg_X12_cylinder_X12 hown hK hP 0 rfl rfl 7 (by decide) (hts (.fieldLink RX12 179 "OilPushModel" "cylinders" "I") (by decide +kernel)) (fun _ h => h) rfl dX12_cylinder_40 ?_
    refine lv_bipush (v := 6) hx hb dX12_cylinder_43 (by decide) ?_
    refine lv_icmp_ne (tgt := 51) hx hb dX12_cylinder_45 (by decide) (fun c4 => ?_) (fun c4 => ?_)
    · refine lv_aload_n hx hb dX12_cylinder_51 rfl (lv_at hl 0 rfl) ?_
      refine va_get (D := g.1) (ci := 12) (v := .ref (q 8)) (C := RX12) (T := TX12) (N := 66) hx hb hts hg_X12_cylinder_X12 hown hK hP 0 rfl rfl 8 (by decide) (hts (.fieldLink RX12 22 "OilPushModel" "kind" "[I") (by decide +kernel)) (fun _ h => h) rfl dX12_cylinder_52 ?_
      refine lv_aload_n hx hb dX12_cylinder_55 rfl (lv_at hl 0 rfl) ?_
      refine va_get (D := g.1) (ci := 12) (v := .int (i 7)) (C := RX12) (T := TX12) (N := 66) hx hb hts hg_X12_cylinder_X12 hown hK hP 0 rfl rfl 7 (by decide) (hts (.fieldLink RX12 179 "OilPushModel" "cylinders" "I") (by decide +kernel)) (fun _ h => h) rfl dX12_cylinder_56 ?_
      refine lv_iload_n hx hb dX12_cylinder_59 rfl (lv_at hl 1 rfl) ?_
      refine va_iast hx hb hK hP hD hS 1 0 rfl rfl (at_full (by decide) h7 c4) dX12_cylinder_60 (fun H locs hP hD hS => ?_)
      have hP : va_P g.1 vwCl [(h0, .inr (12, mO q i L)), ((q 8), .inl (g.2 0, 6, .inl (upd a8 ((i 7).toNatClampNeg) kd))), ((q 9), .inl (g.2 0, 6, .inl a9)), ((q 10), .inl (g.2 0, 6, .inl a10)), ((q 12), .inl (g.2 0, 6, .inl a12)), ((q 15), .inl (g.2 0, 6, .inl a15))] H := hP
      have hD : va_D A [(h0, .inr (12, mO q i L)), ((q 8), .inl (g.2 0, 6, .inl (upd a8 ((i 7).toNatClampNeg) kd))), ((q 9), .inl (g.2 0, 6, .inl a9)), ((q 10), .inl (g.2 0, 6, .inl a10)), ((q 12), .inl (g.2 0, 6, .inl a12)), ((q 15), .inl (g.2 0, 6, .inl a15))] := hD
      refine lv_aload_n hx hb dX12_cylinder_61 rfl (lv_at hl 0 rfl) ?_
      refine va_get (D := g.1) (ci := 12) (v := .ref (q 9)) (C := RX12) (T := TX12) (N := 66) hx hb hts hg_X12_cylinder_X12 hown hK hP 0 rfl rfl 9 (by decide) (hts (.fieldLink RX12 25 "OilPushModel" "area" "[I") (by decide +kernel)) (fun _ h => h) rfl dX12_cylinder_62 ?_
      refine lv_aload_n hx hb dX12_cylinder_65 rfl (lv_at hl 0 rfl) ?_
      refine va_get (D := g.1) (ci := 12) (v := .int (i 7)) (C := RX12) (T := TX12) (N := 66) hx hb hts hg_X12_cylinder_X12 hown hK hP 0 rfl rfl 7 (by decide) (hts (.fieldLink RX12 179 "OilPushModel" "cylinders" "I") (by decide +kernel)) (fun _ h => h) rfl dX12_cylinder_66 ?_
      refine lv_iload_n hx hb dX12_cylinder_69 rfl (lv_at hl 2 rfl) ?_
      refine va_iast hx hb hK hP hD hS 2 0 rfl rfl (at_full (by decide) h7 c4) dX12_cylinder_70 (fun H locs hP hD hS => ?_)
      have hP : va_P g.1 vwCl [(h0, .inr (12, mO q i L)), ((q 8), .inl (g.2 0, 6, .inl (upd a8 ((i 7).toNatClampNeg) kd))), ((q 9), .inl (g.2 0, 6, .inl (upd a9 ((i 7).toNatClampNeg) ar))), ((q 10), .inl (g.2 0, 6, .inl a10)), ((q 12), .inl (g.2 0, 6, .inl a12)), ((q 15), .inl (g.2 0, 6, .inl a15))] H := hP
      have hD : va_D A [(h0, .inr (12, mO q i L)), ((q 8), .inl (g.2 0, 6, .inl (upd a8 ((i 7).toNatClampNeg) kd))), ((q 9), .inl (g.2 0, 6, .inl (upd a9 ((i 7).toNatClampNeg) ar))), ((q 10), .inl (g.2 0, 6, .inl a10)), ((q 12), .inl (g.2 0, 6, .inl a12)), ((q 15), .inl (g.2 0, 6, .inl a15))] := hD
      refine lv_aload_n hx hb dX12_cylinder_71 rfl (lv_at hl 0 rfl) ?_
      refine va_get (D := g.1) (ci := 12) (v := .ref (q 10)) (C := RX12) (T := TX12) (N := 66) hx hb hts hg_X12_cylinder_X12 hown hK hP 0 rfl rfl 10 (by decide) (hts (.fieldLink RX12 28 "OilPushModel" "stroke" "[I") (by decide +kernel)) (fun _ h => h) rfl dX12_cylinder_72 ?_
      refine lv_aload_n hx hb dX12_cylinder_75 rfl (lv_at hl 0 rfl) ?_
      refine va_get (D := g.1) (ci := 12) (v := .int (i 7)) (C := RX12) (T := TX12) (N := 66) hx hb hts hg_X12_cylinder_X12 hown hK hP 0 rfl rfl 7 (by decide) (hts (.fieldLink RX12 179 "OilPushModel" "cylinders" "I") (by decide +kernel)) (fun _ h => h) rfl dX12_cylinder_76 ?_
      refine lv_iload_n hx hb dX12_cylinder_79 rfl (lv_at hl 3 rfl) ?_
      refine va_iast hx hb hK hP hD hS 3 0 rfl rfl (at_full (by decide) h7 c4) dX12_cylinder_80 (fun H locs hP hD hS => ?_)
      have hP : va_P g.1 vwCl [(h0, .inr (12, mO q i L)), ((q 8), .inl (g.2 0, 6, .inl (upd a8 ((i 7).toNatClampNeg) kd))), ((q 9), .inl (g.2 0, 6, .inl (upd a9 ((i 7).toNatClampNeg) ar))), ((q 10), .inl (g.2 0, 6, .inl (upd a10 ((i 7).toNatClampNeg) sk))), ((q 12), .inl (g.2 0, 6, .inl a12)), ((q 15), .inl (g.2 0, 6, .inl a15))] H := hP
      have hD : va_D A [(h0, .inr (12, mO q i L)), ((q 8), .inl (g.2 0, 6, .inl (upd a8 ((i 7).toNatClampNeg) kd))), ((q 9), .inl (g.2 0, 6, .inl (upd a9 ((i 7).toNatClampNeg) ar))), ((q 10), .inl (g.2 0, 6, .inl (upd a10 ((i 7).toNatClampNeg) sk))), ((q 12), .inl (g.2 0, 6, .inl a12)), ((q 15), .inl (g.2 0, 6, .inl a15))] := hD
      refine lv_aload_n hx hb dX12_cylinder_81 rfl (lv_at hl 0 rfl) ?_
      refine va_get (D := g.1) (ci := 12) (v := .ref (q 12)) (C := RX12) (T := TX12) (N := 66) hx hb hts hg_X12_cylinder_X12 hown hK hP 0 rfl rfl 12 (by decide) (hts (.fieldLink RX12 34 "OilPushModel" "loadMany" "[I") (by decide +kernel)) (fun _ h => h) rfl dX12_cylinder_82 ?_
      refine lv_aload_n hx hb dX12_cylinder_85 rfl (lv_at hl 0 rfl) ?_
      refine va_get (D := g.1) (ci := 12) (v := .int (i 7)) (C := RX12) (T := TX12) (N := 66) hx hb hts hg_X12_cylinder_X12 hown hK hP 0 rfl rfl 7 (by decide) (hts (.fieldLink RX12 179 "OilPushModel" "cylinders" "I") (by decide +kernel)) (fun _ h => h) rfl dX12_cylinder_86 ?_
      refine lv_iconst (v := 1) hx hb dX12_cylinder_89 (by decide) ?_
      refine va_iast hx hb hK hP hD hS 4 0 rfl rfl (at_full (by decide) h7 c4) dX12_cylinder_90 (fun H locs hP hD hS => ?_)
      have hP : va_P g.1 vwCl [(h0, .inr (12, mO q i L)), ((q 8), .inl (g.2 0, 6, .inl (upd a8 ((i 7).toNatClampNeg) kd))), ((q 9), .inl (g.2 0, 6, .inl (upd a9 ((i 7).toNatClampNeg) ar))), ((q 10), .inl (g.2 0, 6, .inl (upd a10 ((i 7).toNatClampNeg) sk))), ((q 12), .inl (g.2 0, 6, .inl (upd a12 ((i 7).toNatClampNeg) 1))), ((q 15), .inl (g.2 0, 6, .inl a15))] H := hP
      have hD : va_D A [(h0, .inr (12, mO q i L)), ((q 8), .inl (g.2 0, 6, .inl (upd a8 ((i 7).toNatClampNeg) kd))), ((q 9), .inl (g.2 0, 6, .inl (upd a9 ((i 7).toNatClampNeg) ar))), ((q 10), .inl (g.2 0, 6, .inl (upd a10 ((i 7).toNatClampNeg) sk))), ((q 12), .inl (g.2 0, 6, .inl (upd a12 ((i 7).toNatClampNeg) 1))), ((q 15), .inl (g.2 0, 6, .inl a15))] := hD
      refine lv_aload_n hx hb dX12_cylinder_91 rfl (lv_at hl 0 rfl) ?_
      refine va_get (D := g.1) (ci := 12) (v := .ref (q 15)) (C := RX12) (T := TX12) (N := 66) hx hb hts hg_X12_cylinder_X12 hown hK hP 0 rfl rfl 15 (by decide) (hts (.fieldLink RX12 43 "OilPushModel" "flow" "[I") (by decide +kernel)) (fun _ h => h) rfl dX12_cylinder_92 ?_
      refine lv_aload_n hx hb dX12_cylinder_95 rfl (lv_at hl 0 rfl) ?_
      refine va_get (D := g.1) (ci := 12) (v := .int (i 7)) (C := RX12) (T := TX12) (N := 66) hx hb hts hg_X12_cylinder_X12 hown hK hP 0 rfl rfl 7 (by decide) (hts (.fieldLink RX12 179 "OilPushModel" "cylinders" "I") (by decide +kernel)) (fun _ h => h) rfl dX12_cylinder_96 ?_
      refine lv_sipush (v := 1000) hx hb dX12_cylinder_99 (by decide) ?_
      refine va_iast hx hb hK hP hD hS 5 0 rfl rfl (at_full (by decide) h7 c4) dX12_cylinder_102 (fun H locs hP hD hS => ?_)
      have hP : va_P g.1 vwCl [(h0, .inr (12, mO q i L)), ((q 8), .inl (g.2 0, 6, .inl (upd a8 ((i 7).toNatClampNeg) kd))), ((q 9), .inl (g.2 0, 6, .inl (upd a9 ((i 7).toNatClampNeg) ar))), ((q 10), .inl (g.2 0, 6, .inl (upd a10 ((i 7).toNatClampNeg) sk))), ((q 12), .inl (g.2 0, 6, .inl (upd a12 ((i 7).toNatClampNeg) 1))), ((q 15), .inl (g.2 0, 6, .inl (upd a15 ((i 7).toNatClampNeg) 1000)))] H := hP
      have hD : va_D A [(h0, .inr (12, mO q i L)), ((q 8), .inl (g.2 0, 6, .inl (upd a8 ((i 7).toNatClampNeg) kd))), ((q 9), .inl (g.2 0, 6, .inl (upd a9 ((i 7).toNatClampNeg) ar))), ((q 10), .inl (g.2 0, 6, .inl (upd a10 ((i 7).toNatClampNeg) sk))), ((q 12), .inl (g.2 0, 6, .inl (upd a12 ((i 7).toNatClampNeg) 1))), ((q 15), .inl (g.2 0, 6, .inl (upd a15 ((i 7).toNatClampNeg) 1000)))] := hD
      refine lv_aload_n hx hb dX12_cylinder_103 rfl (lv_at hl 0 rfl) ?_
      refine lv_dup hx hb dX12_cylinder_104 rfl ?_
      refine va_get (D := g.1) (ci := 12) (v := .int (i 7)) (C := RX12) (T := TX12) (N := 66) hx hb hts hg_X12_cylinder_X12 hown hK hP 0 rfl rfl 7 (by decide) (hts (.fieldLink RX12 179 "OilPushModel" "cylinders" "I") (by decide +kernel)) (fun _ h => h) rfl dX12_cylinder_105 ?_
      refine lv_iconst (v := 1) hx hb dX12_cylinder_108 (by decide) ?_
      refine lv_iadd hx hb dX12_cylinder_109 ?_
      refine va_put (D := g.1) (ci := 12) (v := .int ((i 7) + 1)) (ty := .int) (C := RX12) (T := TX12) (N := 66) hx hb hts hg_X12_cylinder_X12 tyX12 tyX12_ok nmX12 hown hK hP hD hS 0 rfl rfl 7 (by decide) (hts (.fieldLink RX12 179 "OilPushModel" "cylinders" "I") (by decide +kernel)) (fun _ h => h) rfl (by decide +kernel) rfl rfl (Nat.le_of_ble_eq_true rfl) dX12_cylinder_110 (fun H locs hP hD hS => ?_)
      have hP : va_P g.1 vwCl [(h0, .inr (12, mO q (upd i 7 ((i 7) + 1)) L)), ((q 8), .inl (g.2 0, 6, .inl (upd a8 ((i 7).toNatClampNeg) kd))), ((q 9), .inl (g.2 0, 6, .inl (upd a9 ((i 7).toNatClampNeg) ar))), ((q 10), .inl (g.2 0, 6, .inl (upd a10 ((i 7).toNatClampNeg) sk))), ((q 12), .inl (g.2 0, 6, .inl (upd a12 ((i 7).toNatClampNeg) 1))), ((q 15), .inl (g.2 0, 6, .inl (upd a15 ((i 7).toNatClampNeg) 1000)))] H := hP
      have hD : va_D A [(h0, .inr (12, mO q (upd i 7 ((i 7) + 1)) L)), ((q 8), .inl (g.2 0, 6, .inl (upd a8 ((i 7).toNatClampNeg) kd))), ((q 9), .inl (g.2 0, 6, .inl (upd a9 ((i 7).toNatClampNeg) ar))), ((q 10), .inl (g.2 0, 6, .inl (upd a10 ((i 7).toNatClampNeg) sk))), ((q 12), .inl (g.2 0, 6, .inl (upd a12 ((i 7).toNatClampNeg) 1))), ((q 15), .inl (g.2 0, 6, .inl (upd a15 ((i 7).toNatClampNeg) 1000)))] := hD
      refine lv_aload_n hx hb dX12_cylinder_113 rfl (lv_at hl 0 rfl) ?_
      refine va_get (D := g.1) (ci := 12) (v := .int ((i 7) + 1)) (C := RX12) (T := TX12) (N := 66) hx hb hts hg_X12_cylinder_X12 hown hK hP 0 rfl rfl 7 (by decide) (hts (.fieldLink RX12 179 "OilPushModel" "cylinders" "I") (by decide +kernel)) (fun _ h => h) rfl dX12_cylinder_114 ?_
      refine lv_iconst (v := 1) hx hb dX12_cylinder_117 (by decide) ?_
      refine lv_isub hx hb dX12_cylinder_118 ?_
      have e90 : (o_g_cylinder_7 i kd ar sk) = ((i 7) + 1) := by unfold o_g_cylinder_7; rw [if_neg c1, if_neg c2, if_neg c3, if_neg c4]
      have e91 : (o_g_cylinder_q8 i a8 kd ar sk) = (upd a8 ((i 7).toNatClampNeg) kd) := by unfold o_g_cylinder_q8; rw [if_neg c1, if_neg c2, if_neg c3, if_neg c4]
      have e92 : (o_g_cylinder_q9 i a9 kd ar sk) = (upd a9 ((i 7).toNatClampNeg) ar) := by unfold o_g_cylinder_q9; rw [if_neg c1, if_neg c2, if_neg c3, if_neg c4]
      have e93 : (o_g_cylinder_q10 i a10 kd ar sk) = (upd a10 ((i 7).toNatClampNeg) sk) := by unfold o_g_cylinder_q10; rw [if_neg c1, if_neg c2, if_neg c3, if_neg c4]
      have e94 : (o_g_cylinder_q12 i a12 kd ar sk) = (upd a12 ((i 7).toNatClampNeg) 1) := by unfold o_g_cylinder_q12; rw [if_neg c1, if_neg c2, if_neg c3, if_neg c4]
      have e95 : (o_g_cylinder_q15 i a15 kd ar sk) = (upd a15 ((i 7).toNatClampNeg) 1000) := by unfold o_g_cylinder_q15; rw [if_neg c1, if_neg c2, if_neg c3, if_neg c4]
      have hP : va_P g.1 vwCl [(h0, .inr (12, mO q (upd i 7 (o_g_cylinder_7 i kd ar sk)) L)), ((q 8), .inl (g.2 0, 6, .inl (o_g_cylinder_q8 i a8 kd ar sk))), ((q 9), .inl (g.2 0, 6, .inl (o_g_cylinder_q9 i a9 kd ar sk))), ((q 10), .inl (g.2 0, 6, .inl (o_g_cylinder_q10 i a10 kd ar sk))), ((q 12), .inl (g.2 0, 6, .inl (o_g_cylinder_q12 i a12 kd ar sk))), ((q 15), .inl (g.2 0, 6, .inl (o_g_cylinder_q15 i a15 kd ar sk)))] H := by rw [e90, e91, e92, e93, e94, e95]; exact hP
      have hD : va_D A [(h0, .inr (12, mO q (upd i 7 (o_g_cylinder_7 i kd ar sk)) L)), ((q 8), .inl (g.2 0, 6, .inl (o_g_cylinder_q8 i a8 kd ar sk))), ((q 9), .inl (g.2 0, 6, .inl (o_g_cylinder_q9 i a9 kd ar sk))), ((q 10), .inl (g.2 0, 6, .inl (o_g_cylinder_q10 i a10 kd ar sk))), ((q 12), .inl (g.2 0, 6, .inl (o_g_cylinder_q12 i a12 kd ar sk))), ((q 15), .inl (g.2 0, 6, .inl (o_g_cylinder_q15 i a15 kd ar sk)))] := by rw [e90, e91, e92, e93, e94, e95]; exact hD
      exact retI C hS () (by unfold r_g_cylinder; rw [if_neg c1, if_neg c2, if_neg c3, if_neg c4]) (hP.pick [0, 1, 2, 3, 4, 5] rfl) (hD.sub [0, 1, 2, 3, 4, 5] rfl rfl) (Nat.le_of_ble_eq_true rfl) (Nat.le_of_ble_eq_true rfl) dX12_cylinder_119
    refine lv_bipush (v := -4) hx hb dX12_cylinder_48 (by decide) ?_
    have e90 : (o_g_cylinder_7 i kd ar sk) = (i 7) := by unfold o_g_cylinder_7; rw [if_neg c1, if_neg c2, if_neg c3, if_pos c4]
    have e91 : (o_g_cylinder_q8 i a8 kd ar sk) = a8 := by unfold o_g_cylinder_q8; rw [if_neg c1, if_neg c2, if_neg c3, if_pos c4]
    have e92 : (o_g_cylinder_q9 i a9 kd ar sk) = a9 := by unfold o_g_cylinder_q9; rw [if_neg c1, if_neg c2, if_neg c3, if_pos c4]
    have e93 : (o_g_cylinder_q10 i a10 kd ar sk) = a10 := by unfold o_g_cylinder_q10; rw [if_neg c1, if_neg c2, if_neg c3, if_pos c4]
    have e94 : (o_g_cylinder_q12 i a12 kd ar sk) = a12 := by unfold o_g_cylinder_q12; rw [if_neg c1, if_neg c2, if_neg c3, if_pos c4]
    have e95 : (o_g_cylinder_q15 i a15 kd ar sk) = a15 := by unfold o_g_cylinder_q15; rw [if_neg c1, if_neg c2, if_neg c3, if_pos c4]
    have hP : va_P g.1 vwCl [(h0, .inr (12, mO q (upd i 7 (o_g_cylinder_7 i kd ar sk)) L)), ((q 8), .inl (g.2 0, 6, .inl (o_g_cylinder_q8 i a8 kd ar sk))), ((q 9), .inl (g.2 0, 6, .inl (o_g_cylinder_q9 i a9 kd ar sk))), ((q 10), .inl (g.2 0, 6, .inl (o_g_cylinder_q10 i a10 kd ar sk))), ((q 12), .inl (g.2 0, 6, .inl (o_g_cylinder_q12 i a12 kd ar sk))), ((q 15), .inl (g.2 0, 6, .inl (o_g_cylinder_q15 i a15 kd ar sk)))] H := by rw [e90, e91, e92, e93, e94, e95]; exact hP
    have hD : va_D A [(h0, .inr (12, mO q (upd i 7 (o_g_cylinder_7 i kd ar sk)) L)), ((q 8), .inl (g.2 0, 6, .inl (o_g_cylinder_q8 i a8 kd ar sk))), ((q 9), .inl (g.2 0, 6, .inl (o_g_cylinder_q9 i a9 kd ar sk))), ((q 10), .inl (g.2 0, 6, .inl (o_g_cylinder_q10 i a10 kd ar sk))), ((q 12), .inl (g.2 0, 6, .inl (o_g_cylinder_q12 i a12 kd ar sk))), ((q 15), .inl (g.2 0, 6, .inl (o_g_cylinder_q15 i a15 kd ar sk)))] := by rw [e90, e91, e92, e93, e94, e95]; exact hD
    exact retI C hS () (by unfold r_g_cylinder; rw [if_neg c1, if_neg c2, if_neg c3, if_pos c4]) (hP.pick [0, 1, 2, 3, 4, 5] rfl) (hD.sub [0, 1, 2, 3, 4, 5] rfl rfl) (Nat.le_of_ble_eq_true rfl) (Nat.le_of_ble_eq_true rfl) dX12_cylinder_50
  refine lv_bipush (v := -2) hx hb dX12_cylinder_36 (by decide) ?_
  have e90 : (o_g_cylinder_7 i kd ar sk) = (i 7) := by unfold o_g_cylinder_7; rw [if_neg c1, if_neg c2, if_pos c3]
  have e91 : (o_g_cylinder_q8 i a8 kd ar sk) = a8 := by unfold o_g_cylinder_q8; rw [if_neg c1, if_neg c2, if_pos c3]
  have e92 : (o_g_cylinder_q9 i a9 kd ar sk) = a9 := by unfold o_g_cylinder_q9; rw [if_neg c1, if_neg c2, if_pos c3]
  have e93 : (o_g_cylinder_q10 i a10 kd ar sk) = a10 := by unfold o_g_cylinder_q10; rw [if_neg c1, if_neg c2, if_pos c3]
  have e94 : (o_g_cylinder_q12 i a12 kd ar sk) = a12 := by unfold o_g_cylinder_q12; rw [if_neg c1, if_neg c2, if_pos c3]
  have e95 : (o_g_cylinder_q15 i a15 kd ar sk) = a15 := by unfold o_g_cylinder_q15; rw [if_neg c1, if_neg c2, if_pos c3]
  have hP : va_P g.1 vwCl [(h0, .inr (12, mO q (upd i 7 (o_g_cylinder_7 i kd ar sk)) L)), ((q 8), .inl (g.2 0, 6, .inl (o_g_cylinder_q8 i a8 kd ar sk))), ((q 9), .inl (g.2 0, 6, .inl (o_g_cylinder_q9 i a9 kd ar sk))), ((q 10), .inl (g.2 0, 6, .inl (o_g_cylinder_q10 i a10 kd ar sk))), ((q 12), .inl (g.2 0, 6, .inl (o_g_cylinder_q12 i a12 kd ar sk))), ((q 15), .inl (g.2 0, 6, .inl (o_g_cylinder_q15 i a15 kd ar sk)))] H := by rw [e90, e91, e92, e93, e94, e95]; exact hP
  have hD : va_D A [(h0, .inr (12, mO q (upd i 7 (o_g_cylinder_7 i kd ar sk)) L)), ((q 8), .inl (g.2 0, 6, .inl (o_g_cylinder_q8 i a8 kd ar sk))), ((q 9), .inl (g.2 0, 6, .inl (o_g_cylinder_q9 i a9 kd ar sk))), ((q 10), .inl (g.2 0, 6, .inl (o_g_cylinder_q10 i a10 kd ar sk))), ((q 12), .inl (g.2 0, 6, .inl (o_g_cylinder_q12 i a12 kd ar sk))), ((q 15), .inl (g.2 0, 6, .inl (o_g_cylinder_q15 i a15 kd ar sk)))] := by rw [e90, e91, e92, e93, e94, e95]; exact hD
  exact retI C hS () (by unfold r_g_cylinder; rw [if_neg c1, if_neg c2, if_pos c3]) (hP.pick [0, 1, 2, 3, 4, 5] rfl) (hD.sub [0, 1, 2, 3, 4, 5] rfl rfl) (Nat.le_of_ble_eq_true rfl) (Nat.le_of_ble_eq_true rfl) dX12_cylinder_38
theorem hg_X12_order_X12 : ∀ w ∈ wsX120, w ∈ wsX12_order := fun w h => List.mem_cons_of_mem _ (List.mem_append_right _ h)
def r_g_order (i : Nat → Int32) (cy : Int32) (en : Int32) (d : Int32) (v : Int32) : Int32 := (if (r_g_noCylinder i cy) = 0 then (if (r_g_noCylinder i d) = 0 then (if (r_c_in (Int32.toInt64 en) 0 2) = 0 then (-2) else (if (r_c_in (Int32.toInt64 v) 0 2) = 0 then (-2) else (if (i 24) = 30 then (-4) else ((i 24) + 1)))) else (-1)) else (-1))
def o_g_order_24 (i : Nat → Int32) (cy : Int32) (en : Int32) (d : Int32) (v : Int32) : Int32 := (if (r_g_noCylinder i cy) = 0 then (if (r_g_noCylinder i d) = 0 then (if (r_c_in (Int32.toInt64 en) 0 2) = 0 then (i 24) else (if (r_c_in (Int32.toInt64 v) 0 2) = 0 then (i 24) else (if (i 24) = 30 then (i 24) else ((i 24) + 1)))) else (i 24)) else (i 24))
def o_g_order_q25 (i : Nat → Int32) (a25 : Nat → Int32) (cy : Int32) (en : Int32) (d : Int32) (v : Int32) : Nat → Int32 := (if (r_g_noCylinder i cy) = 0 then (if (r_g_noCylinder i d) = 0 then (if (r_c_in (Int32.toInt64 en) 0 2) = 0 then a25 else (if (r_c_in (Int32.toInt64 v) 0 2) = 0 then a25 else (if (i 24) = 30 then a25 else (upd a25 ((i 24).toNatClampNeg) cy)))) else a25) else a25)
def o_g_order_q26 (i : Nat → Int32) (a26 : Nat → Int32) (cy : Int32) (en : Int32) (d : Int32) (v : Int32) : Nat → Int32 := (if (r_g_noCylinder i cy) = 0 then (if (r_g_noCylinder i d) = 0 then (if (r_c_in (Int32.toInt64 en) 0 2) = 0 then a26 else (if (r_c_in (Int32.toInt64 v) 0 2) = 0 then a26 else (if (i 24) = 30 then a26 else (upd a26 ((i 24).toNatClampNeg) en)))) else a26) else a26)
def o_g_order_q27 (i : Nat → Int32) (a27 : Nat → Int32) (cy : Int32) (en : Int32) (d : Int32) (v : Int32) : Nat → Int32 := (if (r_g_noCylinder i cy) = 0 then (if (r_g_noCylinder i d) = 0 then (if (r_c_in (Int32.toInt64 en) 0 2) = 0 then a27 else (if (r_c_in (Int32.toInt64 v) 0 2) = 0 then a27 else (if (i 24) = 30 then a27 else (upd a27 ((i 24).toNatClampNeg) d)))) else a27) else a27)
def o_g_order_q28 (i : Nat → Int32) (a28 : Nat → Int32) (cy : Int32) (en : Int32) (d : Int32) (v : Int32) : Nat → Int32 := (if (r_g_noCylinder i cy) = 0 then (if (r_g_noCylinder i d) = 0 then (if (r_c_in (Int32.toInt64 en) 0 2) = 0 then a28 else (if (r_c_in (Int32.toInt64 v) 0 2) = 0 then a28 else (if (i 24) = 30 then a28 else (upd a28 ((i 24).toNatClampNeg) v)))) else a28) else a28)
set_option maxRecDepth 100000 in
set_option maxHeartbeats 4000000 in
theorem g_order (l : Launch) (g : Gt) (h0 : Nat) (q : Nat → Nat) (i : Nat → Int32) (L : Nat → Int64) (a25 : Nat → Int32) (a26 : Nat → Int32) (a27 : Nat → Int32) (a28 : Nat → Int32) (cy : Int32) (en : Int32) (d : Int32) (v : Int32) (h7 : 0 ≤ (i 7).toInt ∧ (i 7).toInt ≤ 6) (h24 : 0 ≤ (i 24).toInt ∧ (i 24).toInt ≤ 30) : Ctr l g yX12_order wsX12_order ({ frames := 2, cells := 0, slots := 0, locals := 46 } : Room) [.ref h0, .int cy, .int en, .int d, .int v] [(h0, .inr (12, mO q i L)), ((q 25), .inl (g.2 0, 30, .inl a25)), ((q 26), .inl (g.2 0, 30, .inl a26)), ((q 27), .inl (g.2 0, 30, .inl a27)), ((q 28), .inl (g.2 0, 30, .inl a28))] (fun A => QI g A (fun r (_ : Unit) => r = (r_g_order i cy en d v)) (fun _u : Unit => [(h0, .inr (12, mO q (upd i 24 (o_g_order_24 i cy en d v)) L)), ((q 25), .inl (g.2 0, 30, .inl (o_g_order_q25 i a25 cy en d v))), ((q 26), .inl (g.2 0, 30, .inl (o_g_order_q26 i a26 cy en d v))), ((q 27), .inl (g.2 0, 30, .inl (o_g_order_q27 i a27 cy en d v))), ((q 28), .inl (g.2 0, 30, .inl (o_g_order_q28 i a28 cy en d v)))])) := by
  refine Ctr.of (cc := cX12_order) (maxL := 5) (ret := (some .int)) (by decide) rfl (Nat.le_of_ble_eq_true rfl) ?_
  intro p e s m below meth c A ls H C hP hD hA hS hl
  obtain ⟨hx, hb, hr, hts, hown, hlocks, hml, hin, hKN⟩ := id C
  have hK := hKN.1
  have hN := hKN.2
  have F : CallFix p m c cX12_order 5 s _ wsX12_order yX12_order.cls := ⟨hx, hb, hml, hown, hts⟩
  have hl : lv_has ls 5 [(0, .ref h0), (1, .int cy), (2, .int en), (3, .int d), (4, .int v)] := hl
  refine lv_aload_n hx hb dX12_order_0 rfl (lv_at hl 0 rfl) ?_
  refine lv_iload_n hx hb dX12_order_1 rfl (lv_at hl 1 rfl) ?_
  refine callIV (As := [.int cy]) (rest := []) (wr := [((q 25), .inl (g.2 0, 30, .inl a25)), ((q 26), .inl (g.2 0, 30, .inl a26)), ((q 27), .inl (g.2 0, 30, .inl a27)), ((q 28), .inl (g.2 0, 30, .inl a28))]) (Cn := RX12) C (g_noCylinder l g h0 q i L cy) 1 gX12_order_X12_noCylinder rfl (by decide +kernel) ⟨(Nat.le_of_ble_eq_true rfl), (Nat.le_of_ble_eq_true rfl)⟩ [0] [1, 2, 3, 4] hP hD hA hS rfl rfl rfl rfl (by decide) (k := 0) (ci := 12) rfl rfl rfl rfl hl.1 rfl (Nat.le_of_ble_eq_true rfl) dX12_order_2 ⟨(Nat.le_of_ble_eq_true rfl), (Nat.le_of_ble_eq_true rfl)⟩ (fun r _u H locs hw hP hD hS => ?_)
  have hP : va_P g.1 vwCl [((q 25), .inl (g.2 0, 30, .inl a25)), ((q 26), .inl (g.2 0, 30, .inl a26)), ((q 27), .inl (g.2 0, 30, .inl a27)), ((q 28), .inl (g.2 0, 30, .inl a28)), (h0, .inr (12, mO q i L))] H := hP
  have hD : va_D A [((q 25), .inl (g.2 0, 30, .inl a25)), ((q 26), .inl (g.2 0, 30, .inl a26)), ((q 27), .inl (g.2 0, 30, .inl a27)), ((q 28), .inl (g.2 0, 30, .inl a28)), (h0, .inr (12, mO q i L))] := hD
  subst hw
  refine lv_if_ne (tgt := 16) hx hb dX12_order_5 (by decide) (fun c1 => ?_) (fun c1 => ?_)
  · refine lv_iconst (v := -1) hx hb dX12_order_16 (by decide) ?_
    have e90 : (o_g_order_24 i cy en d v) = (i 24) := by unfold o_g_order_24; rw [if_neg c1]
    have e91 : (o_g_order_q25 i a25 cy en d v) = a25 := by unfold o_g_order_q25; rw [if_neg c1]
    have e92 : (o_g_order_q26 i a26 cy en d v) = a26 := by unfold o_g_order_q26; rw [if_neg c1]
    have e93 : (o_g_order_q27 i a27 cy en d v) = a27 := by unfold o_g_order_q27; rw [if_neg c1]
    have e94 : (o_g_order_q28 i a28 cy en d v) = a28 := by unfold o_g_order_q28; rw [if_neg c1]
    have hP : va_P g.1 vwCl [((q 25), .inl (g.2 0, 30, .inl (o_g_order_q25 i a25 cy en d v))), ((q 26), .inl (g.2 0, 30, .inl (o_g_order_q26 i a26 cy en d v))), ((q 27), .inl (g.2 0, 30, .inl (o_g_order_q27 i a27 cy en d v))), ((q 28), .inl (g.2 0, 30, .inl (o_g_order_q28 i a28 cy en d v))), (h0, .inr (12, mO q (upd i 24 (o_g_order_24 i cy en d v)) L))] H := by rw [e90, e91, e92, e93, e94]; exact hP
    have hD : va_D A [((q 25), .inl (g.2 0, 30, .inl (o_g_order_q25 i a25 cy en d v))), ((q 26), .inl (g.2 0, 30, .inl (o_g_order_q26 i a26 cy en d v))), ((q 27), .inl (g.2 0, 30, .inl (o_g_order_q27 i a27 cy en d v))), ((q 28), .inl (g.2 0, 30, .inl (o_g_order_q28 i a28 cy en d v))), (h0, .inr (12, mO q (upd i 24 (o_g_order_24 i cy en d v)) L))] := by rw [e90, e91, e92, e93, e94]; exact hD
    exact retI C hS () (by unfold r_g_order; rw [if_neg c1]) (hP.pick [4, 0, 1, 2, 3] rfl) (hD.sub [4, 0, 1, 2, 3] rfl rfl) (Nat.le_of_ble_eq_true rfl) (Nat.le_of_ble_eq_true rfl) dX12_order_17
  refine lv_aload_n hx hb dX12_order_8 rfl (lv_at hl 0 rfl) ?_
  refine lv_iload_n hx hb dX12_order_9 rfl (lv_at hl 3 rfl) ?_
  refine callIV (As := [.int d]) (rest := []) (wr := [((q 25), .inl (g.2 0, 30, .inl a25)), ((q 26), .inl (g.2 0, 30, .inl a26)), ((q 27), .inl (g.2 0, 30, .inl a27)), ((q 28), .inl (g.2 0, 30, .inl a28))]) (Cn := RX12) C (g_noCylinder l g h0 q i L d) 1 gX12_order_X12_noCylinder rfl (by decide +kernel) ⟨(Nat.le_of_ble_eq_true rfl), (Nat.le_of_ble_eq_true rfl)⟩ [4] [0, 1, 2, 3] hP hD hA hS rfl rfl rfl rfl (by decide) (k := 4) (ci := 12) rfl rfl rfl rfl hl.1 rfl (Nat.le_of_ble_eq_true rfl) dX12_order_10 ⟨(Nat.le_of_ble_eq_true rfl), (Nat.le_of_ble_eq_true rfl)⟩ (fun r _u H locs hw hP hD hS => ?_)
  have hP : va_P g.1 vwCl [((q 25), .inl (g.2 0, 30, .inl a25)), ((q 26), .inl (g.2 0, 30, .inl a26)), ((q 27), .inl (g.2 0, 30, .inl a27)), ((q 28), .inl (g.2 0, 30, .inl a28)), (h0, .inr (12, mO q i L))] H := hP
  have hD : va_D A [((q 25), .inl (g.2 0, 30, .inl a25)), ((q 26), .inl (g.2 0, 30, .inl a26)), ((q 27), .inl (g.2 0, 30, .inl a27)), ((q 28), .inl (g.2 0, 30, .inl a28)), (h0, .inr (12, mO q i L))] := hD
  subst hw
  refine lv_if_eq (tgt := 18) hx hb dX12_order_13 (by decide) (fun c2 => ?_) (fun c2 => ?_)
  · refine lv_iload_n hx hb dX12_order_18 rfl (lv_at hl 2 rfl) ?_
    refine lv_i2l hx hb dX12_order_19 rfl ?_
    refine lv_lconst (v := 0) hx hb dX12_order_20 (by decide) ?_
    refine lv_ldc2 (v := 2) hx hb hown (hts (.constantLong RX12 162 (2)) (by decide +kernel)) dX12_order_21 ?_
    refine pureIS (As := [.long (Int32.toInt64 en), .long 0, .long 2]) (rest := []) F (c_in l (Int32.toInt64 en) 0 2) 3 gX12_order_X12_in rfl (by decide +kernel) rfl rfl ⟨(Nat.le_of_ble_eq_true rfl), (Nat.le_of_ble_eq_true rfl)⟩ (Nat.le_of_ble_eq_true rfl) (Nat.le_of_ble_eq_true rfl) rfl hl.1 rfl (Nat.le_of_ble_eq_true rfl) dX12_order_24 ?_
    refine lv_if_eq (tgt := 43) hx hb dX12_order_27 (by decide) (fun c3 => ?_) (fun c3 => ?_)
    · refine lv_bipush (v := -2) hx hb dX12_order_43 (by decide) ?_
      have e90 : (o_g_order_24 i cy en d v) = (i 24) := by unfold o_g_order_24; rw [if_pos c1, if_pos c2, if_pos c3]
      have e91 : (o_g_order_q25 i a25 cy en d v) = a25 := by unfold o_g_order_q25; rw [if_pos c1, if_pos c2, if_pos c3]
      have e92 : (o_g_order_q26 i a26 cy en d v) = a26 := by unfold o_g_order_q26; rw [if_pos c1, if_pos c2, if_pos c3]
      have e93 : (o_g_order_q27 i a27 cy en d v) = a27 := by unfold o_g_order_q27; rw [if_pos c1, if_pos c2, if_pos c3]
      have e94 : (o_g_order_q28 i a28 cy en d v) = a28 := by unfold o_g_order_q28; rw [if_pos c1, if_pos c2, if_pos c3]
      have hP : va_P g.1 vwCl [((q 25), .inl (g.2 0, 30, .inl (o_g_order_q25 i a25 cy en d v))), ((q 26), .inl (g.2 0, 30, .inl (o_g_order_q26 i a26 cy en d v))), ((q 27), .inl (g.2 0, 30, .inl (o_g_order_q27 i a27 cy en d v))), ((q 28), .inl (g.2 0, 30, .inl (o_g_order_q28 i a28 cy en d v))), (h0, .inr (12, mO q (upd i 24 (o_g_order_24 i cy en d v)) L))] H := by rw [e90, e91, e92, e93, e94]; exact hP
      have hD : va_D A [((q 25), .inl (g.2 0, 30, .inl (o_g_order_q25 i a25 cy en d v))), ((q 26), .inl (g.2 0, 30, .inl (o_g_order_q26 i a26 cy en d v))), ((q 27), .inl (g.2 0, 30, .inl (o_g_order_q27 i a27 cy en d v))), ((q 28), .inl (g.2 0, 30, .inl (o_g_order_q28 i a28 cy en d v))), (h0, .inr (12, mO q (upd i 24 (o_g_order_24 i cy en d v)) L))] := by rw [e90, e91, e92, e93, e94]; exact hD
      exact retI C hS () (by unfold r_g_order; rw [if_pos c1, if_pos c2, if_pos c3]) (hP.pick [4, 0, 1, 2, 3] rfl) (hD.sub [4, 0, 1, 2, 3] rfl rfl) (Nat.le_of_ble_eq_true rfl) (Nat.le_of_ble_eq_true rfl) dX12_order_45
    refine lv_iload hx hb dX12_order_30 (lv_at hl 4 rfl) ?_
    refine lv_i2l hx hb dX12_order_32 rfl ?_
    refine lv_lconst (v := 0) hx hb dX12_order_33 (by decide) ?_
    refine lv_ldc2 (v := 2) hx hb hown (hts (.constantLong RX12 162 (2)) (by decide +kernel)) dX12_order_34 ?_
    refine pureIS (As := [.long (Int32.toInt64 v), .long 0, .long 2]) (rest := []) F (c_in l (Int32.toInt64 v) 0 2) 3 gX12_order_X12_in rfl (by decide +kernel) rfl rfl ⟨(Nat.le_of_ble_eq_true rfl), (Nat.le_of_ble_eq_true rfl)⟩ (Nat.le_of_ble_eq_true rfl) (Nat.le_of_ble_eq_true rfl) rfl hl.1 rfl (Nat.le_of_ble_eq_true rfl) dX12_order_37 ?_
    refine lv_if_ne (tgt := 46) hx hb dX12_order_40 (by decide) (fun c4 => ?_) (fun c4 => ?_)
    · refine lv_aload_n hx hb dX12_order_46 rfl (lv_at hl 0 rfl) ?_
      refine va_get (D := g.1) (ci := 12) (v := .int (i 24)) (C := RX12) (T := TX12) (N := 66) hx hb hts hg_X12_order_X12 hown hK hP 4 rfl rfl 24 (by decide) (hts (.fieldLink RX12 221 "OilPushModel" "orders" "I") (by decide +kernel)) (fun _ h => h) rfl dX12_order_47 ?_
      refine lv_bipush (v := 30) hx hb dX12_order_50 (by decide) ?_
      refine lv_icmp_ne (tgt := 58) hx hb dX12_order_52 (by decide) (fun c5 => ?_) (fun c5 => ?_)
      · refine lv_aload_n hx hb dX12_order_58 rfl (lv_at hl 0 rfl) ?_
        refine va_get (D := g.1) (ci := 12) (v := .ref (q 25)) (C := RX12) (T := TX12) (N := 66) hx hb hts hg_X12_order_X12 hown hK hP 4 rfl rfl 25 (by decide) (hts (.fieldLink RX12 59 "OilPushModel" "orderC" "[I") (by decide +kernel)) (fun _ h => h) rfl dX12_order_59 ?_
        refine lv_aload_n hx hb dX12_order_62 rfl (lv_at hl 0 rfl) ?_
        refine va_get (D := g.1) (ci := 12) (v := .int (i 24)) (C := RX12) (T := TX12) (N := 66) hx hb hts hg_X12_order_X12 hown hK hP 4 rfl rfl 24 (by decide) (hts (.fieldLink RX12 221 "OilPushModel" "orders" "I") (by decide +kernel)) (fun _ h => h) rfl dX12_order_63 ?_
        refine lv_iload_n hx hb dX12_order_66 rfl (lv_at hl 1 rfl) ?_
        refine va_iast hx hb hK hP hD hS 0 0 rfl rfl (at_full (by decide) h24 c5) dX12_order_67 (fun H locs hP hD hS => ?_)
        have hP : va_P g.1 vwCl [((q 25), .inl (g.2 0, 30, .inl (upd a25 ((i 24).toNatClampNeg) cy))), ((q 26), .inl (g.2 0, 30, .inl a26)), ((q 27), .inl (g.2 0, 30, .inl a27)), ((q 28), .inl (g.2 0, 30, .inl a28)), (h0, .inr (12, mO q i L))] H := hP
        have hD : va_D A [((q 25), .inl (g.2 0, 30, .inl (upd a25 ((i 24).toNatClampNeg) cy))), ((q 26), .inl (g.2 0, 30, .inl a26)), ((q 27), .inl (g.2 0, 30, .inl a27)), ((q 28), .inl (g.2 0, 30, .inl a28)), (h0, .inr (12, mO q i L))] := hD
        refine lv_aload_n hx hb dX12_order_68 rfl (lv_at hl 0 rfl) ?_
        refine va_get (D := g.1) (ci := 12) (v := .ref (q 26)) (C := RX12) (T := TX12) (N := 66) hx hb hts hg_X12_order_X12 hown hK hP 4 rfl rfl 26 (by decide) (hts (.fieldLink RX12 62 "OilPushModel" "orderEnd" "[I") (by decide +kernel)) (fun _ h => h) rfl dX12_order_69 ?_
        refine lv_aload_n hx hb dX12_order_72 rfl (lv_at hl 0 rfl) ?_
        refine va_get (D := g.1) (ci := 12) (v := .int (i 24)) (C := RX12) (T := TX12) (N := 66) hx hb hts hg_X12_order_X12 hown hK hP 4 rfl rfl 24 (by decide) (hts (.fieldLink RX12 221 "OilPushModel" "orders" "I") (by decide +kernel)) (fun _ h => h) rfl dX12_order_73 ?_
        refine lv_iload_n hx hb dX12_order_76 rfl (lv_at hl 2 rfl) ?_
        refine va_iast hx hb hK hP hD hS 1 0 rfl rfl (at_full (by decide) h24 c5) dX12_order_77 (fun H locs hP hD hS => ?_)
        have hP : va_P g.1 vwCl [((q 25), .inl (g.2 0, 30, .inl (upd a25 ((i 24).toNatClampNeg) cy))), ((q 26), .inl (g.2 0, 30, .inl (upd a26 ((i 24).toNatClampNeg) en))), ((q 27), .inl (g.2 0, 30, .inl a27)), ((q 28), .inl (g.2 0, 30, .inl a28)), (h0, .inr (12, mO q i L))] H := hP
        have hD : va_D A [((q 25), .inl (g.2 0, 30, .inl (upd a25 ((i 24).toNatClampNeg) cy))), ((q 26), .inl (g.2 0, 30, .inl (upd a26 ((i 24).toNatClampNeg) en))), ((q 27), .inl (g.2 0, 30, .inl a27)), ((q 28), .inl (g.2 0, 30, .inl a28)), (h0, .inr (12, mO q i L))] := hD
        refine lv_aload_n hx hb dX12_order_78 rfl (lv_at hl 0 rfl) ?_
        refine va_get (D := g.1) (ci := 12) (v := .ref (q 27)) (C := RX12) (T := TX12) (N := 66) hx hb hts hg_X12_order_X12 hown hK hP 4 rfl rfl 27 (by decide) (hts (.fieldLink RX12 65 "OilPushModel" "orderD" "[I") (by decide +kernel)) (fun _ h => h) rfl dX12_order_79 ?_
        refine lv_aload_n hx hb dX12_order_82 rfl (lv_at hl 0 rfl) ?_
        refine va_get (D := g.1) (ci := 12) (v := .int (i 24)) (C := RX12) (T := TX12) (N := 66) hx hb hts hg_X12_order_X12 hown hK hP 4 rfl rfl 24 (by decide) (hts (.fieldLink RX12 221 "OilPushModel" "orders" "I") (by decide +kernel)) (fun _ h => h) rfl dX12_order_83 ?_
        refine lv_iload_n hx hb dX12_order_86 rfl (lv_at hl 3 rfl) ?_
        refine va_iast hx hb hK hP hD hS 2 0 rfl rfl (at_full (by decide) h24 c5) dX12_order_87 (fun H locs hP hD hS => ?_)
        have hP : va_P g.1 vwCl [((q 25), .inl (g.2 0, 30, .inl (upd a25 ((i 24).toNatClampNeg) cy))), ((q 26), .inl (g.2 0, 30, .inl (upd a26 ((i 24).toNatClampNeg) en))), ((q 27), .inl (g.2 0, 30, .inl (upd a27 ((i 24).toNatClampNeg) d))), ((q 28), .inl (g.2 0, 30, .inl a28)), (h0, .inr (12, mO q i L))] H := hP
        have hD : va_D A [((q 25), .inl (g.2 0, 30, .inl (upd a25 ((i 24).toNatClampNeg) cy))), ((q 26), .inl (g.2 0, 30, .inl (upd a26 ((i 24).toNatClampNeg) en))), ((q 27), .inl (g.2 0, 30, .inl (upd a27 ((i 24).toNatClampNeg) d))), ((q 28), .inl (g.2 0, 30, .inl a28)), (h0, .inr (12, mO q i L))] := hD
        refine lv_aload_n hx hb dX12_order_88 rfl (lv_at hl 0 rfl) ?_
        refine va_get (D := g.1) (ci := 12) (v := .ref (q 28)) (C := RX12) (T := TX12) (N := 66) hx hb hts hg_X12_order_X12 hown hK hP 4 rfl rfl 28 (by decide) (hts (.fieldLink RX12 68 "OilPushModel" "orderV" "[I") (by decide +kernel)) (fun _ h => h) rfl dX12_order_89 ?_
        refine lv_aload_n hx hb dX12_order_92 rfl (lv_at hl 0 rfl) ?_
        refine va_get (D := g.1) (ci := 12) (v := .int (i 24)) (C := RX12) (T := TX12) (N := 66) hx hb hts hg_X12_order_X12 hown hK hP 4 rfl rfl 24 (by decide) (hts (.fieldLink RX12 221 "OilPushModel" "orders" "I") (by decide +kernel)) (fun _ h => h) rfl dX12_order_93 ?_
        refine lv_iload hx hb dX12_order_96 (lv_at hl 4 rfl) ?_
        refine va_iast hx hb hK hP hD hS 3 0 rfl rfl (at_full (by decide) h24 c5) dX12_order_98 (fun H locs hP hD hS => ?_)
        have hP : va_P g.1 vwCl [((q 25), .inl (g.2 0, 30, .inl (upd a25 ((i 24).toNatClampNeg) cy))), ((q 26), .inl (g.2 0, 30, .inl (upd a26 ((i 24).toNatClampNeg) en))), ((q 27), .inl (g.2 0, 30, .inl (upd a27 ((i 24).toNatClampNeg) d))), ((q 28), .inl (g.2 0, 30, .inl (upd a28 ((i 24).toNatClampNeg) v))), (h0, .inr (12, mO q i L))] H := hP
        have hD : va_D A [((q 25), .inl (g.2 0, 30, .inl (upd a25 ((i 24).toNatClampNeg) cy))), ((q 26), .inl (g.2 0, 30, .inl (upd a26 ((i 24).toNatClampNeg) en))), ((q 27), .inl (g.2 0, 30, .inl (upd a27 ((i 24).toNatClampNeg) d))), ((q 28), .inl (g.2 0, 30, .inl (upd a28 ((i 24).toNatClampNeg) v))), (h0, .inr (12, mO q i L))] := hD
        refine lv_aload_n hx hb dX12_order_99 rfl (lv_at hl 0 rfl) ?_
        refine lv_dup hx hb dX12_order_100 rfl ?_
        refine va_get (D := g.1) (ci := 12) (v := .int (i 24)) (C := RX12) (T := TX12) (N := 66) hx hb hts hg_X12_order_X12 hown hK hP 4 rfl rfl 24 (by decide) (hts (.fieldLink RX12 221 "OilPushModel" "orders" "I") (by decide +kernel)) (fun _ h => h) rfl dX12_order_101 ?_
        refine lv_iconst (v := 1) hx hb dX12_order_104 (by decide) ?_
        refine lv_iadd hx hb dX12_order_105 ?_
        refine va_put (D := g.1) (ci := 12) (v := .int ((i 24) + 1)) (ty := .int) (C := RX12) (T := TX12) (N := 66) hx hb hts hg_X12_order_X12 tyX12 tyX12_ok nmX12 hown hK hP hD hS 4 rfl rfl 24 (by decide) (hts (.fieldLink RX12 221 "OilPushModel" "orders" "I") (by decide +kernel)) (fun _ h => h) rfl (by decide +kernel) rfl rfl (Nat.le_of_ble_eq_true rfl) dX12_order_106 (fun H locs hP hD hS => ?_)
        have hP : va_P g.1 vwCl [((q 25), .inl (g.2 0, 30, .inl (upd a25 ((i 24).toNatClampNeg) cy))), ((q 26), .inl (g.2 0, 30, .inl (upd a26 ((i 24).toNatClampNeg) en))), ((q 27), .inl (g.2 0, 30, .inl (upd a27 ((i 24).toNatClampNeg) d))), ((q 28), .inl (g.2 0, 30, .inl (upd a28 ((i 24).toNatClampNeg) v))), (h0, .inr (12, mO q (upd i 24 ((i 24) + 1)) L))] H := hP
        have hD : va_D A [((q 25), .inl (g.2 0, 30, .inl (upd a25 ((i 24).toNatClampNeg) cy))), ((q 26), .inl (g.2 0, 30, .inl (upd a26 ((i 24).toNatClampNeg) en))), ((q 27), .inl (g.2 0, 30, .inl (upd a27 ((i 24).toNatClampNeg) d))), ((q 28), .inl (g.2 0, 30, .inl (upd a28 ((i 24).toNatClampNeg) v))), (h0, .inr (12, mO q (upd i 24 ((i 24) + 1)) L))] := hD
        refine lv_aload_n hx hb dX12_order_109 rfl (lv_at hl 0 rfl) ?_
        refine va_get (D := g.1) (ci := 12) (v := .int ((i 24) + 1)) (C := RX12) (T := TX12) (N := 66) hx hb hts hg_X12_order_X12 hown hK hP 4 rfl rfl 24 (by decide) (hts (.fieldLink RX12 221 "OilPushModel" "orders" "I") (by decide +kernel)) (fun _ h => h) rfl dX12_order_110 ?_
        have e90 : (o_g_order_24 i cy en d v) = ((i 24) + 1) := by unfold o_g_order_24; rw [if_pos c1, if_pos c2, if_neg c3, if_neg c4, if_neg c5]
        have e91 : (o_g_order_q25 i a25 cy en d v) = (upd a25 ((i 24).toNatClampNeg) cy) := by unfold o_g_order_q25; rw [if_pos c1, if_pos c2, if_neg c3, if_neg c4, if_neg c5]
        have e92 : (o_g_order_q26 i a26 cy en d v) = (upd a26 ((i 24).toNatClampNeg) en) := by unfold o_g_order_q26; rw [if_pos c1, if_pos c2, if_neg c3, if_neg c4, if_neg c5]
        have e93 : (o_g_order_q27 i a27 cy en d v) = (upd a27 ((i 24).toNatClampNeg) d) := by unfold o_g_order_q27; rw [if_pos c1, if_pos c2, if_neg c3, if_neg c4, if_neg c5]
        have e94 : (o_g_order_q28 i a28 cy en d v) = (upd a28 ((i 24).toNatClampNeg) v) := by unfold o_g_order_q28; rw [if_pos c1, if_pos c2, if_neg c3, if_neg c4, if_neg c5]
        have hP : va_P g.1 vwCl [((q 25), .inl (g.2 0, 30, .inl (o_g_order_q25 i a25 cy en d v))), ((q 26), .inl (g.2 0, 30, .inl (o_g_order_q26 i a26 cy en d v))), ((q 27), .inl (g.2 0, 30, .inl (o_g_order_q27 i a27 cy en d v))), ((q 28), .inl (g.2 0, 30, .inl (o_g_order_q28 i a28 cy en d v))), (h0, .inr (12, mO q (upd i 24 (o_g_order_24 i cy en d v)) L))] H := by rw [e90, e91, e92, e93, e94]; exact hP
        have hD : va_D A [((q 25), .inl (g.2 0, 30, .inl (o_g_order_q25 i a25 cy en d v))), ((q 26), .inl (g.2 0, 30, .inl (o_g_order_q26 i a26 cy en d v))), ((q 27), .inl (g.2 0, 30, .inl (o_g_order_q27 i a27 cy en d v))), ((q 28), .inl (g.2 0, 30, .inl (o_g_order_q28 i a28 cy en d v))), (h0, .inr (12, mO q (upd i 24 (o_g_order_24 i cy en d v)) L))] := by rw [e90, e91, e92, e93, e94]; exact hD
        exact retI C hS () (by unfold r_g_order; rw [if_pos c1, if_pos c2, if_neg c3, if_neg c4, if_neg c5]) (hP.pick [4, 0, 1, 2, 3] rfl) (hD.sub [4, 0, 1, 2, 3] rfl rfl) (Nat.le_of_ble_eq_true rfl) (Nat.le_of_ble_eq_true rfl) dX12_order_113
      refine lv_bipush (v := -4) hx hb dX12_order_55 (by decide) ?_
      have e90 : (o_g_order_24 i cy en d v) = (i 24) := by unfold o_g_order_24; rw [if_pos c1, if_pos c2, if_neg c3, if_neg c4, if_pos c5]
      have e91 : (o_g_order_q25 i a25 cy en d v) = a25 := by unfold o_g_order_q25; rw [if_pos c1, if_pos c2, if_neg c3, if_neg c4, if_pos c5]
      have e92 : (o_g_order_q26 i a26 cy en d v) = a26 := by unfold o_g_order_q26; rw [if_pos c1, if_pos c2, if_neg c3, if_neg c4, if_pos c5]
      have e93 : (o_g_order_q27 i a27 cy en d v) = a27 := by unfold o_g_order_q27; rw [if_pos c1, if_pos c2, if_neg c3, if_neg c4, if_pos c5]
      have e94 : (o_g_order_q28 i a28 cy en d v) = a28 := by unfold o_g_order_q28; rw [if_pos c1, if_pos c2, if_neg c3, if_neg c4, if_pos c5]
      have hP : va_P g.1 vwCl [((q 25), .inl (g.2 0, 30, .inl (o_g_order_q25 i a25 cy en d v))), ((q 26), .inl (g.2 0, 30, .inl (o_g_order_q26 i a26 cy en d v))), ((q 27), .inl (g.2 0, 30, .inl (o_g_order_q27 i a27 cy en d v))), ((q 28), .inl (g.2 0, 30, .inl (o_g_order_q28 i a28 cy en d v))), (h0, .inr (12, mO q (upd i 24 (o_g_order_24 i cy en d v)) L))] H := by rw [e90, e91, e92, e93, e94]; exact hP
      have hD : va_D A [((q 25), .inl (g.2 0, 30, .inl (o_g_order_q25 i a25 cy en d v))), ((q 26), .inl (g.2 0, 30, .inl (o_g_order_q26 i a26 cy en d v))), ((q 27), .inl (g.2 0, 30, .inl (o_g_order_q27 i a27 cy en d v))), ((q 28), .inl (g.2 0, 30, .inl (o_g_order_q28 i a28 cy en d v))), (h0, .inr (12, mO q (upd i 24 (o_g_order_24 i cy en d v)) L))] := by rw [e90, e91, e92, e93, e94]; exact hD
      exact retI C hS () (by unfold r_g_order; rw [if_pos c1, if_pos c2, if_neg c3, if_neg c4, if_pos c5]) (hP.pick [4, 0, 1, 2, 3] rfl) (hD.sub [4, 0, 1, 2, 3] rfl rfl) (Nat.le_of_ble_eq_true rfl) (Nat.le_of_ble_eq_true rfl) dX12_order_57
    refine lv_bipush (v := -2) hx hb dX12_order_43 (by decide) ?_
    have e90 : (o_g_order_24 i cy en d v) = (i 24) := by unfold o_g_order_24; rw [if_pos c1, if_pos c2, if_neg c3, if_pos c4]
    have e91 : (o_g_order_q25 i a25 cy en d v) = a25 := by unfold o_g_order_q25; rw [if_pos c1, if_pos c2, if_neg c3, if_pos c4]
    have e92 : (o_g_order_q26 i a26 cy en d v) = a26 := by unfold o_g_order_q26; rw [if_pos c1, if_pos c2, if_neg c3, if_pos c4]
    have e93 : (o_g_order_q27 i a27 cy en d v) = a27 := by unfold o_g_order_q27; rw [if_pos c1, if_pos c2, if_neg c3, if_pos c4]
    have e94 : (o_g_order_q28 i a28 cy en d v) = a28 := by unfold o_g_order_q28; rw [if_pos c1, if_pos c2, if_neg c3, if_pos c4]
    have hP : va_P g.1 vwCl [((q 25), .inl (g.2 0, 30, .inl (o_g_order_q25 i a25 cy en d v))), ((q 26), .inl (g.2 0, 30, .inl (o_g_order_q26 i a26 cy en d v))), ((q 27), .inl (g.2 0, 30, .inl (o_g_order_q27 i a27 cy en d v))), ((q 28), .inl (g.2 0, 30, .inl (o_g_order_q28 i a28 cy en d v))), (h0, .inr (12, mO q (upd i 24 (o_g_order_24 i cy en d v)) L))] H := by rw [e90, e91, e92, e93, e94]; exact hP
    have hD : va_D A [((q 25), .inl (g.2 0, 30, .inl (o_g_order_q25 i a25 cy en d v))), ((q 26), .inl (g.2 0, 30, .inl (o_g_order_q26 i a26 cy en d v))), ((q 27), .inl (g.2 0, 30, .inl (o_g_order_q27 i a27 cy en d v))), ((q 28), .inl (g.2 0, 30, .inl (o_g_order_q28 i a28 cy en d v))), (h0, .inr (12, mO q (upd i 24 (o_g_order_24 i cy en d v)) L))] := by rw [e90, e91, e92, e93, e94]; exact hD
    exact retI C hS () (by unfold r_g_order; rw [if_pos c1, if_pos c2, if_neg c3, if_pos c4]) (hP.pick [4, 0, 1, 2, 3] rfl) (hD.sub [4, 0, 1, 2, 3] rfl rfl) (Nat.le_of_ble_eq_true rfl) (Nat.le_of_ble_eq_true rfl) dX12_order_45
  refine lv_iconst (v := -1) hx hb dX12_order_16 (by decide) ?_
  have e90 : (o_g_order_24 i cy en d v) = (i 24) := by unfold o_g_order_24; rw [if_pos c1, if_neg c2]
  have e91 : (o_g_order_q25 i a25 cy en d v) = a25 := by unfold o_g_order_q25; rw [if_pos c1, if_neg c2]
  have e92 : (o_g_order_q26 i a26 cy en d v) = a26 := by unfold o_g_order_q26; rw [if_pos c1, if_neg c2]
  have e93 : (o_g_order_q27 i a27 cy en d v) = a27 := by unfold o_g_order_q27; rw [if_pos c1, if_neg c2]
  have e94 : (o_g_order_q28 i a28 cy en d v) = a28 := by unfold o_g_order_q28; rw [if_pos c1, if_neg c2]
  have hP : va_P g.1 vwCl [((q 25), .inl (g.2 0, 30, .inl (o_g_order_q25 i a25 cy en d v))), ((q 26), .inl (g.2 0, 30, .inl (o_g_order_q26 i a26 cy en d v))), ((q 27), .inl (g.2 0, 30, .inl (o_g_order_q27 i a27 cy en d v))), ((q 28), .inl (g.2 0, 30, .inl (o_g_order_q28 i a28 cy en d v))), (h0, .inr (12, mO q (upd i 24 (o_g_order_24 i cy en d v)) L))] H := by rw [e90, e91, e92, e93, e94]; exact hP
  have hD : va_D A [((q 25), .inl (g.2 0, 30, .inl (o_g_order_q25 i a25 cy en d v))), ((q 26), .inl (g.2 0, 30, .inl (o_g_order_q26 i a26 cy en d v))), ((q 27), .inl (g.2 0, 30, .inl (o_g_order_q27 i a27 cy en d v))), ((q 28), .inl (g.2 0, 30, .inl (o_g_order_q28 i a28 cy en d v))), (h0, .inr (12, mO q (upd i 24 (o_g_order_24 i cy en d v)) L))] := by rw [e90, e91, e92, e93, e94]; exact hD
  exact retI C hS () (by unfold r_g_order; rw [if_pos c1, if_neg c2]) (hP.pick [4, 0, 1, 2, 3] rfl) (hD.sub [4, 0, 1, 2, 3] rfl rfl) (Nat.le_of_ble_eq_true rfl) (Nat.le_of_ble_eq_true rfl) dX12_order_17
theorem hg_X12_reading_X12 : ∀ w ∈ wsX120, w ∈ wsX12_reading := fun w h => List.mem_cons_of_mem _ (List.mem_append_right _ h)
def r_g_reading (i : Nat → Int32) (a9 : Nat → Int32) (a10 : Nat → Int32) (t : Int32) (cy : Int32) (x : Int32) : Int32 := (if (r_g_noCylinder i cy) = 0 then (if (r_c_in (Int32.toInt64 t) 0 200) = 0 then (-2) else (if (r_c_in (Int32.toInt64 x) 0 (Int32.toInt64 ((a9 (cy.toNatClampNeg)) * (a10 (cy.toNatClampNeg))))) = 0 then (-2) else (if (i 52) = 20 then (-4) else ((i 52) + 1)))) else (-1))
def o_g_reading_52 (i : Nat → Int32) (a9 : Nat → Int32) (a10 : Nat → Int32) (t : Int32) (cy : Int32) (x : Int32) : Int32 := (if (r_g_noCylinder i cy) = 0 then (if (r_c_in (Int32.toInt64 t) 0 200) = 0 then (i 52) else (if (r_c_in (Int32.toInt64 x) 0 (Int32.toInt64 ((a9 (cy.toNatClampNeg)) * (a10 (cy.toNatClampNeg))))) = 0 then (i 52) else (if (i 52) = 20 then (i 52) else ((i 52) + 1)))) else (i 52))
def o_g_reading_q53 (i : Nat → Int32) (a53 : Nat → Int32) (a9 : Nat → Int32) (a10 : Nat → Int32) (t : Int32) (cy : Int32) (x : Int32) : Nat → Int32 := (if (r_g_noCylinder i cy) = 0 then (if (r_c_in (Int32.toInt64 t) 0 200) = 0 then a53 else (if (r_c_in (Int32.toInt64 x) 0 (Int32.toInt64 ((a9 (cy.toNatClampNeg)) * (a10 (cy.toNatClampNeg))))) = 0 then a53 else (if (i 52) = 20 then a53 else (upd a53 ((i 52).toNatClampNeg) t)))) else a53)
def o_g_reading_q54 (i : Nat → Int32) (a54 : Nat → Int32) (a9 : Nat → Int32) (a10 : Nat → Int32) (t : Int32) (cy : Int32) (x : Int32) : Nat → Int32 := (if (r_g_noCylinder i cy) = 0 then (if (r_c_in (Int32.toInt64 t) 0 200) = 0 then a54 else (if (r_c_in (Int32.toInt64 x) 0 (Int32.toInt64 ((a9 (cy.toNatClampNeg)) * (a10 (cy.toNatClampNeg))))) = 0 then a54 else (if (i 52) = 20 then a54 else (upd a54 ((i 52).toNatClampNeg) cy)))) else a54)
def o_g_reading_q55 (i : Nat → Int32) (a55 : Nat → Int32) (a9 : Nat → Int32) (a10 : Nat → Int32) (t : Int32) (cy : Int32) (x : Int32) : Nat → Int32 := (if (r_g_noCylinder i cy) = 0 then (if (r_c_in (Int32.toInt64 t) 0 200) = 0 then a55 else (if (r_c_in (Int32.toInt64 x) 0 (Int32.toInt64 ((a9 (cy.toNatClampNeg)) * (a10 (cy.toNatClampNeg))))) = 0 then a55 else (if (i 52) = 20 then a55 else (upd a55 ((i 52).toNatClampNeg) x)))) else a55)
set_option maxRecDepth 100000 in
set_option maxHeartbeats 4000000 in
theorem g_reading (l : Launch) (g : Gt) (h0 : Nat) (q : Nat → Nat) (i : Nat → Int32) (L : Nat → Int64) (a53 : Nat → Int32) (a54 : Nat → Int32) (a55 : Nat → Int32) (a9 : Nat → Int32) (a10 : Nat → Int32) (t : Int32) (cy : Int32) (x : Int32) (h7 : 0 ≤ (i 7).toInt ∧ (i 7).toInt ≤ 6) (h52 : 0 ≤ (i 52).toInt ∧ (i 52).toInt ≤ 20) : Ctr l g yX12_reading wsX12_reading ({ frames := 2, cells := 0, slots := 0, locals := 46 } : Room) [.ref h0, .int t, .int cy, .int x] [(h0, .inr (12, mO q i L)), ((q 53), .inl (g.2 0, 20, .inl a53)), ((q 54), .inl (g.2 0, 20, .inl a54)), ((q 55), .inl (g.2 0, 20, .inl a55)), ((q 9), .inl (g.2 0, 6, .inl a9)), ((q 10), .inl (g.2 0, 6, .inl a10))] (fun A => QI g A (fun r (_ : Unit) => r = (r_g_reading i a9 a10 t cy x)) (fun _u : Unit => [(h0, .inr (12, mO q (upd i 52 (o_g_reading_52 i a9 a10 t cy x)) L)), ((q 53), .inl (g.2 0, 20, .inl (o_g_reading_q53 i a53 a9 a10 t cy x))), ((q 54), .inl (g.2 0, 20, .inl (o_g_reading_q54 i a54 a9 a10 t cy x))), ((q 55), .inl (g.2 0, 20, .inl (o_g_reading_q55 i a55 a9 a10 t cy x))), ((q 9), .inl (g.2 0, 6, .inl a9)), ((q 10), .inl (g.2 0, 6, .inl a10))])) := by
  refine Ctr.of (cc := cX12_reading) (maxL := 4) (ret := (some .int)) (by decide) rfl (Nat.le_of_ble_eq_true rfl) ?_
  intro p e s m below meth c A ls H C hP hD hA hS hl
  obtain ⟨hx, hb, hr, hts, hown, hlocks, hml, hin, hKN⟩ := id C
  have hK := hKN.1
  have hN := hKN.2
  have F : CallFix p m c cX12_reading 4 s _ wsX12_reading yX12_reading.cls := ⟨hx, hb, hml, hown, hts⟩
  have hl : lv_has ls 4 [(0, .ref h0), (1, .int t), (2, .int cy), (3, .int x)] := hl
  refine lv_aload_n hx hb dX12_reading_0 rfl (lv_at hl 0 rfl) ?_
  refine lv_iload_n hx hb dX12_reading_1 rfl (lv_at hl 2 rfl) ?_
  refine callIV (As := [.int cy]) (rest := []) (wr := [((q 53), .inl (g.2 0, 20, .inl a53)), ((q 54), .inl (g.2 0, 20, .inl a54)), ((q 55), .inl (g.2 0, 20, .inl a55)), ((q 9), .inl (g.2 0, 6, .inl a9)), ((q 10), .inl (g.2 0, 6, .inl a10))]) (Cn := RX12) C (g_noCylinder l g h0 q i L cy) 1 gX12_reading_X12_noCylinder rfl (by decide +kernel) ⟨(Nat.le_of_ble_eq_true rfl), (Nat.le_of_ble_eq_true rfl)⟩ [0] [1, 2, 3, 4, 5] hP hD hA hS rfl rfl rfl rfl (by decide) (k := 0) (ci := 12) rfl rfl rfl rfl hl.1 rfl (Nat.le_of_ble_eq_true rfl) dX12_reading_2 ⟨(Nat.le_of_ble_eq_true rfl), (Nat.le_of_ble_eq_true rfl)⟩ (fun r _u H locs hw hP hD hS => ?_)
  have hP : va_P g.1 vwCl [((q 53), .inl (g.2 0, 20, .inl a53)), ((q 54), .inl (g.2 0, 20, .inl a54)), ((q 55), .inl (g.2 0, 20, .inl a55)), ((q 9), .inl (g.2 0, 6, .inl a9)), ((q 10), .inl (g.2 0, 6, .inl a10)), (h0, .inr (12, mO q i L))] H := hP
  have hD : va_D A [((q 53), .inl (g.2 0, 20, .inl a53)), ((q 54), .inl (g.2 0, 20, .inl a54)), ((q 55), .inl (g.2 0, 20, .inl a55)), ((q 9), .inl (g.2 0, 6, .inl a9)), ((q 10), .inl (g.2 0, 6, .inl a10)), (h0, .inr (12, mO q i L))] := hD
  subst hw
  refine lv_if_eq (tgt := 10) hx hb dX12_reading_5 (by decide) (fun c1 => ?_) (fun c1 => ?_)
  · refine lv_iload_n hx hb dX12_reading_10 rfl (lv_at hl 1 rfl) ?_
    refine lv_i2l hx hb dX12_reading_11 rfl ?_
    refine lv_lconst (v := 0) hx hb dX12_reading_12 (by decide) ?_
    refine lv_ldc2 (v := 200) hx hb hown (hts (.constantLong RX12 273 (200)) (by decide +kernel)) dX12_reading_13 ?_
    refine pureIS (As := [.long (Int32.toInt64 t), .long 0, .long 200]) (rest := []) F (c_in l (Int32.toInt64 t) 0 200) 3 gX12_reading_X12_in rfl (by decide +kernel) rfl rfl ⟨(Nat.le_of_ble_eq_true rfl), (Nat.le_of_ble_eq_true rfl)⟩ (Nat.le_of_ble_eq_true rfl) (Nat.le_of_ble_eq_true rfl) rfl hl.1 rfl (Nat.le_of_ble_eq_true rfl) dX12_reading_16 ?_
    refine lv_if_eq (tgt := 37) hx hb dX12_reading_19 (by decide) (fun c2 => ?_) (fun c2 => ?_)
    · refine lv_bipush (v := -2) hx hb dX12_reading_37 (by decide) ?_
      have e90 : (o_g_reading_52 i a9 a10 t cy x) = (i 52) := by unfold o_g_reading_52; rw [if_pos c1, if_pos c2]
      have e91 : (o_g_reading_q53 i a53 a9 a10 t cy x) = a53 := by unfold o_g_reading_q53; rw [if_pos c1, if_pos c2]
      have e92 : (o_g_reading_q54 i a54 a9 a10 t cy x) = a54 := by unfold o_g_reading_q54; rw [if_pos c1, if_pos c2]
      have e93 : (o_g_reading_q55 i a55 a9 a10 t cy x) = a55 := by unfold o_g_reading_q55; rw [if_pos c1, if_pos c2]
      have hP : va_P g.1 vwCl [((q 53), .inl (g.2 0, 20, .inl (o_g_reading_q53 i a53 a9 a10 t cy x))), ((q 54), .inl (g.2 0, 20, .inl (o_g_reading_q54 i a54 a9 a10 t cy x))), ((q 55), .inl (g.2 0, 20, .inl (o_g_reading_q55 i a55 a9 a10 t cy x))), ((q 9), .inl (g.2 0, 6, .inl a9)), ((q 10), .inl (g.2 0, 6, .inl a10)), (h0, .inr (12, mO q (upd i 52 (o_g_reading_52 i a9 a10 t cy x)) L))] H := by rw [e90, e91, e92, e93]; exact hP
      have hD : va_D A [((q 53), .inl (g.2 0, 20, .inl (o_g_reading_q53 i a53 a9 a10 t cy x))), ((q 54), .inl (g.2 0, 20, .inl (o_g_reading_q54 i a54 a9 a10 t cy x))), ((q 55), .inl (g.2 0, 20, .inl (o_g_reading_q55 i a55 a9 a10 t cy x))), ((q 9), .inl (g.2 0, 6, .inl a9)), ((q 10), .inl (g.2 0, 6, .inl a10)), (h0, .inr (12, mO q (upd i 52 (o_g_reading_52 i a9 a10 t cy x)) L))] := by rw [e90, e91, e92, e93]; exact hD
      exact retI C hS () (by unfold r_g_reading; rw [if_pos c1, if_pos c2]) (hP.pick [5, 0, 1, 2, 3, 4] rfl) (hD.sub [5, 0, 1, 2, 3, 4] rfl rfl) (Nat.le_of_ble_eq_true rfl) (Nat.le_of_ble_eq_true rfl) dX12_reading_39
    refine lv_iload_n hx hb dX12_reading_22 rfl (lv_at hl 3 rfl) ?_
    refine lv_i2l hx hb dX12_reading_23 rfl ?_
    refine lv_lconst (v := 0) hx hb dX12_reading_24 (by decide) ?_
    refine lv_aload_n hx hb dX12_reading_25 rfl (lv_at hl 0 rfl) ?_
    refine lv_iload_n hx hb dX12_reading_26 rfl (lv_at hl 2 rfl) ?_
    refine callIV (As := [.int cy]) (rest := [.long 0, .long (Int32.toInt64 x)]) (wr := [((q 53), .inl (g.2 0, 20, .inl a53)), ((q 54), .inl (g.2 0, 20, .inl a54)), ((q 55), .inl (g.2 0, 20, .inl a55))]) (Cn := RX12) C (g_room l g h0 q i L a9 a10 cy (noCyl_in h7 c1).1) 1 gX12_reading_X12_room rfl (by decide +kernel) ⟨(Nat.le_of_ble_eq_true rfl), (Nat.le_of_ble_eq_true rfl)⟩ [5, 3, 4] [0, 1, 2] hP hD hA hS rfl rfl rfl rfl (by decide) (k := 5) (ci := 12) rfl rfl rfl rfl hl.1 rfl (Nat.le_of_ble_eq_true rfl) dX12_reading_27 ⟨(Nat.le_of_ble_eq_true rfl), (Nat.le_of_ble_eq_true rfl)⟩ (fun r _u H locs hw hP hD hS => ?_)
    have hP : va_P g.1 vwCl [((q 53), .inl (g.2 0, 20, .inl a53)), ((q 54), .inl (g.2 0, 20, .inl a54)), ((q 55), .inl (g.2 0, 20, .inl a55)), (h0, .inr (12, mO q i L)), ((q 9), .inl (g.2 0, 6, .inl a9)), ((q 10), .inl (g.2 0, 6, .inl a10))] H := hP
    have hD : va_D A [((q 53), .inl (g.2 0, 20, .inl a53)), ((q 54), .inl (g.2 0, 20, .inl a54)), ((q 55), .inl (g.2 0, 20, .inl a55)), (h0, .inr (12, mO q i L)), ((q 9), .inl (g.2 0, 6, .inl a9)), ((q 10), .inl (g.2 0, 6, .inl a10))] := hD
    subst hw
    refine lv_i2l hx hb dX12_reading_30 rfl ?_
    refine pureIS (As := [.long (Int32.toInt64 x), .long 0, .long (Int32.toInt64 ((a9 (cy.toNatClampNeg)) * (a10 (cy.toNatClampNeg))))]) (rest := []) F (c_in l (Int32.toInt64 x) 0 (Int32.toInt64 ((a9 (cy.toNatClampNeg)) * (a10 (cy.toNatClampNeg))))) 3 gX12_reading_X12_in rfl (by decide +kernel) rfl rfl ⟨(Nat.le_of_ble_eq_true rfl), (Nat.le_of_ble_eq_true rfl)⟩ (Nat.le_of_ble_eq_true rfl) (Nat.le_of_ble_eq_true rfl) rfl hl.1 rfl (Nat.le_of_ble_eq_true rfl) dX12_reading_31 ?_
    refine lv_if_ne (tgt := 40) hx hb dX12_reading_34 (by decide) (fun c3 => ?_) (fun c3 => ?_)
    · refine lv_aload_n hx hb dX12_reading_40 rfl (lv_at hl 0 rfl) ?_
      refine va_get (D := g.1) (ci := 12) (v := .int (i 52)) (C := RX12) (T := TX12) (N := 66) hx hb hts hg_X12_reading_X12 hown hK hP 3 rfl rfl 52 (by decide) (hts (.fieldLink RX12 291 "OilPushModel" "readings" "I") (by decide +kernel)) (fun _ h => h) rfl dX12_reading_41 ?_
      refine lv_bipush (v := 20) hx hb dX12_reading_44 (by decide) ?_
      refine lv_icmp_ne (tgt := 52) hx hb dX12_reading_46 (by decide) (fun c4 => ?_) (fun c4 => ?_)
      · refine lv_aload_n hx hb dX12_reading_52 rfl (lv_at hl 0 rfl) ?_
        refine va_get (D := g.1) (ci := 12) (v := .ref (q 53)) (C := RX12) (T := TX12) (N := 66) hx hb hts hg_X12_reading_X12 hown hK hP 3 rfl rfl 53 (by decide) (hts (.fieldLink RX12 95 "OilPushModel" "readT" "[I") (by decide +kernel)) (fun _ h => h) rfl dX12_reading_53 ?_
        refine lv_aload_n hx hb dX12_reading_56 rfl (lv_at hl 0 rfl) ?_
        refine va_get (D := g.1) (ci := 12) (v := .int (i 52)) (C := RX12) (T := TX12) (N := 66) hx hb hts hg_X12_reading_X12 hown hK hP 3 rfl rfl 52 (by decide) (hts (.fieldLink RX12 291 "OilPushModel" "readings" "I") (by decide +kernel)) (fun _ h => h) rfl dX12_reading_57 ?_
        refine lv_iload_n hx hb dX12_reading_60 rfl (lv_at hl 1 rfl) ?_
        refine va_iast hx hb hK hP hD hS 0 0 rfl rfl (at_full (by decide) h52 c4) dX12_reading_61 (fun H locs hP hD hS => ?_)
        have hP : va_P g.1 vwCl [((q 53), .inl (g.2 0, 20, .inl (upd a53 ((i 52).toNatClampNeg) t))), ((q 54), .inl (g.2 0, 20, .inl a54)), ((q 55), .inl (g.2 0, 20, .inl a55)), (h0, .inr (12, mO q i L)), ((q 9), .inl (g.2 0, 6, .inl a9)), ((q 10), .inl (g.2 0, 6, .inl a10))] H := hP
        have hD : va_D A [((q 53), .inl (g.2 0, 20, .inl (upd a53 ((i 52).toNatClampNeg) t))), ((q 54), .inl (g.2 0, 20, .inl a54)), ((q 55), .inl (g.2 0, 20, .inl a55)), (h0, .inr (12, mO q i L)), ((q 9), .inl (g.2 0, 6, .inl a9)), ((q 10), .inl (g.2 0, 6, .inl a10))] := hD
        refine lv_aload_n hx hb dX12_reading_62 rfl (lv_at hl 0 rfl) ?_
        refine va_get (D := g.1) (ci := 12) (v := .ref (q 54)) (C := RX12) (T := TX12) (N := 66) hx hb hts hg_X12_reading_X12 hown hK hP 3 rfl rfl 54 (by decide) (hts (.fieldLink RX12 98 "OilPushModel" "readC" "[I") (by decide +kernel)) (fun _ h => h) rfl dX12_reading_63 ?_
        refine lv_aload_n hx hb dX12_reading_66 rfl (lv_at hl 0 rfl) ?_
        refine va_get (D := g.1) (ci := 12) (v := .int (i 52)) (C := RX12) (T := TX12) (N := 66) hx hb hts hg_X12_reading_X12 hown hK hP 3 rfl rfl 52 (by decide) (hts (.fieldLink RX12 291 "OilPushModel" "readings" "I") (by decide +kernel)) (fun _ h => h) rfl dX12_reading_67 ?_
        refine lv_iload_n hx hb dX12_reading_70 rfl (lv_at hl 2 rfl) ?_
        refine va_iast hx hb hK hP hD hS 1 0 rfl rfl (at_full (by decide) h52 c4) dX12_reading_71 (fun H locs hP hD hS => ?_)
        have hP : va_P g.1 vwCl [((q 53), .inl (g.2 0, 20, .inl (upd a53 ((i 52).toNatClampNeg) t))), ((q 54), .inl (g.2 0, 20, .inl (upd a54 ((i 52).toNatClampNeg) cy))), ((q 55), .inl (g.2 0, 20, .inl a55)), (h0, .inr (12, mO q i L)), ((q 9), .inl (g.2 0, 6, .inl a9)), ((q 10), .inl (g.2 0, 6, .inl a10))] H := hP
        have hD : va_D A [((q 53), .inl (g.2 0, 20, .inl (upd a53 ((i 52).toNatClampNeg) t))), ((q 54), .inl (g.2 0, 20, .inl (upd a54 ((i 52).toNatClampNeg) cy))), ((q 55), .inl (g.2 0, 20, .inl a55)), (h0, .inr (12, mO q i L)), ((q 9), .inl (g.2 0, 6, .inl a9)), ((q 10), .inl (g.2 0, 6, .inl a10))] := hD
        refine lv_aload_n hx hb dX12_reading_72 rfl (lv_at hl 0 rfl) ?_
        refine va_get (D := g.1) (ci := 12) (v := .ref (q 55)) (C := RX12) (T := TX12) (N := 66) hx hb hts hg_X12_reading_X12 hown hK hP 3 rfl rfl 55 (by decide) (hts (.fieldLink RX12 101 "OilPushModel" "readX" "[I") (by decide +kernel)) (fun _ h => h) rfl dX12_reading_73 ?_
        refine lv_aload_n hx hb dX12_reading_76 rfl (lv_at hl 0 rfl) ?_
        refine va_get (D := g.1) (ci := 12) (v := .int (i 52)) (C := RX12) (T := TX12) (N := 66) hx hb hts hg_X12_reading_X12 hown hK hP 3 rfl rfl 52 (by decide) (hts (.fieldLink RX12 291 "OilPushModel" "readings" "I") (by decide +kernel)) (fun _ h => h) rfl dX12_reading_77 ?_
        refine lv_iload_n hx hb dX12_reading_80 rfl (lv_at hl 3 rfl) ?_
        refine va_iast hx hb hK hP hD hS 2 0 rfl rfl (at_full (by decide) h52 c4) dX12_reading_81 (fun H locs hP hD hS => ?_)
        have hP : va_P g.1 vwCl [((q 53), .inl (g.2 0, 20, .inl (upd a53 ((i 52).toNatClampNeg) t))), ((q 54), .inl (g.2 0, 20, .inl (upd a54 ((i 52).toNatClampNeg) cy))), ((q 55), .inl (g.2 0, 20, .inl (upd a55 ((i 52).toNatClampNeg) x))), (h0, .inr (12, mO q i L)), ((q 9), .inl (g.2 0, 6, .inl a9)), ((q 10), .inl (g.2 0, 6, .inl a10))] H := hP
        have hD : va_D A [((q 53), .inl (g.2 0, 20, .inl (upd a53 ((i 52).toNatClampNeg) t))), ((q 54), .inl (g.2 0, 20, .inl (upd a54 ((i 52).toNatClampNeg) cy))), ((q 55), .inl (g.2 0, 20, .inl (upd a55 ((i 52).toNatClampNeg) x))), (h0, .inr (12, mO q i L)), ((q 9), .inl (g.2 0, 6, .inl a9)), ((q 10), .inl (g.2 0, 6, .inl a10))] := hD
        refine lv_aload_n hx hb dX12_reading_82 rfl (lv_at hl 0 rfl) ?_
        refine lv_dup hx hb dX12_reading_83 rfl ?_
        refine va_get (D := g.1) (ci := 12) (v := .int (i 52)) (C := RX12) (T := TX12) (N := 66) hx hb hts hg_X12_reading_X12 hown hK hP 3 rfl rfl 52 (by decide) (hts (.fieldLink RX12 291 "OilPushModel" "readings" "I") (by decide +kernel)) (fun _ h => h) rfl dX12_reading_84 ?_
        refine lv_iconst (v := 1) hx hb dX12_reading_87 (by decide) ?_
        refine lv_iadd hx hb dX12_reading_88 ?_
        refine va_put (D := g.1) (ci := 12) (v := .int ((i 52) + 1)) (ty := .int) (C := RX12) (T := TX12) (N := 66) hx hb hts hg_X12_reading_X12 tyX12 tyX12_ok nmX12 hown hK hP hD hS 3 rfl rfl 52 (by decide) (hts (.fieldLink RX12 291 "OilPushModel" "readings" "I") (by decide +kernel)) (fun _ h => h) rfl (by decide +kernel) rfl rfl (Nat.le_of_ble_eq_true rfl) dX12_reading_89 (fun H locs hP hD hS => ?_)
        have hP : va_P g.1 vwCl [((q 53), .inl (g.2 0, 20, .inl (upd a53 ((i 52).toNatClampNeg) t))), ((q 54), .inl (g.2 0, 20, .inl (upd a54 ((i 52).toNatClampNeg) cy))), ((q 55), .inl (g.2 0, 20, .inl (upd a55 ((i 52).toNatClampNeg) x))), (h0, .inr (12, mO q (upd i 52 ((i 52) + 1)) L)), ((q 9), .inl (g.2 0, 6, .inl a9)), ((q 10), .inl (g.2 0, 6, .inl a10))] H := hP
        have hD : va_D A [((q 53), .inl (g.2 0, 20, .inl (upd a53 ((i 52).toNatClampNeg) t))), ((q 54), .inl (g.2 0, 20, .inl (upd a54 ((i 52).toNatClampNeg) cy))), ((q 55), .inl (g.2 0, 20, .inl (upd a55 ((i 52).toNatClampNeg) x))), (h0, .inr (12, mO q (upd i 52 ((i 52) + 1)) L)), ((q 9), .inl (g.2 0, 6, .inl a9)), ((q 10), .inl (g.2 0, 6, .inl a10))] := hD
        refine lv_aload_n hx hb dX12_reading_92 rfl (lv_at hl 0 rfl) ?_
        refine va_get (D := g.1) (ci := 12) (v := .int ((i 52) + 1)) (C := RX12) (T := TX12) (N := 66) hx hb hts hg_X12_reading_X12 hown hK hP 3 rfl rfl 52 (by decide) (hts (.fieldLink RX12 291 "OilPushModel" "readings" "I") (by decide +kernel)) (fun _ h => h) rfl dX12_reading_93 ?_
        have e90 : (o_g_reading_52 i a9 a10 t cy x) = ((i 52) + 1) := by unfold o_g_reading_52; rw [if_pos c1, if_neg c2, if_neg c3, if_neg c4]
        have e91 : (o_g_reading_q53 i a53 a9 a10 t cy x) = (upd a53 ((i 52).toNatClampNeg) t) := by unfold o_g_reading_q53; rw [if_pos c1, if_neg c2, if_neg c3, if_neg c4]
        have e92 : (o_g_reading_q54 i a54 a9 a10 t cy x) = (upd a54 ((i 52).toNatClampNeg) cy) := by unfold o_g_reading_q54; rw [if_pos c1, if_neg c2, if_neg c3, if_neg c4]
        have e93 : (o_g_reading_q55 i a55 a9 a10 t cy x) = (upd a55 ((i 52).toNatClampNeg) x) := by unfold o_g_reading_q55; rw [if_pos c1, if_neg c2, if_neg c3, if_neg c4]
        have hP : va_P g.1 vwCl [((q 53), .inl (g.2 0, 20, .inl (o_g_reading_q53 i a53 a9 a10 t cy x))), ((q 54), .inl (g.2 0, 20, .inl (o_g_reading_q54 i a54 a9 a10 t cy x))), ((q 55), .inl (g.2 0, 20, .inl (o_g_reading_q55 i a55 a9 a10 t cy x))), (h0, .inr (12, mO q (upd i 52 (o_g_reading_52 i a9 a10 t cy x)) L)), ((q 9), .inl (g.2 0, 6, .inl a9)), ((q 10), .inl (g.2 0, 6, .inl a10))] H := by rw [e90, e91, e92, e93]; exact hP
        have hD : va_D A [((q 53), .inl (g.2 0, 20, .inl (o_g_reading_q53 i a53 a9 a10 t cy x))), ((q 54), .inl (g.2 0, 20, .inl (o_g_reading_q54 i a54 a9 a10 t cy x))), ((q 55), .inl (g.2 0, 20, .inl (o_g_reading_q55 i a55 a9 a10 t cy x))), (h0, .inr (12, mO q (upd i 52 (o_g_reading_52 i a9 a10 t cy x)) L)), ((q 9), .inl (g.2 0, 6, .inl a9)), ((q 10), .inl (g.2 0, 6, .inl a10))] := by rw [e90, e91, e92, e93]; exact hD
        exact retI C hS () (by unfold r_g_reading; rw [if_pos c1, if_neg c2, if_neg c3, if_neg c4]) (hP.pick [3, 0, 1, 2, 4, 5] rfl) (hD.sub [3, 0, 1, 2, 4, 5] rfl rfl) (Nat.le_of_ble_eq_true rfl) (Nat.le_of_ble_eq_true rfl) dX12_reading_96
      refine lv_bipush (v := -4) hx hb dX12_reading_49 (by decide) ?_
      have e90 : (o_g_reading_52 i a9 a10 t cy x) = (i 52) := by unfold o_g_reading_52; rw [if_pos c1, if_neg c2, if_neg c3, if_pos c4]
      have e91 : (o_g_reading_q53 i a53 a9 a10 t cy x) = a53 := by unfold o_g_reading_q53; rw [if_pos c1, if_neg c2, if_neg c3, if_pos c4]
      have e92 : (o_g_reading_q54 i a54 a9 a10 t cy x) = a54 := by unfold o_g_reading_q54; rw [if_pos c1, if_neg c2, if_neg c3, if_pos c4]
      have e93 : (o_g_reading_q55 i a55 a9 a10 t cy x) = a55 := by unfold o_g_reading_q55; rw [if_pos c1, if_neg c2, if_neg c3, if_pos c4]
      have hP : va_P g.1 vwCl [((q 53), .inl (g.2 0, 20, .inl (o_g_reading_q53 i a53 a9 a10 t cy x))), ((q 54), .inl (g.2 0, 20, .inl (o_g_reading_q54 i a54 a9 a10 t cy x))), ((q 55), .inl (g.2 0, 20, .inl (o_g_reading_q55 i a55 a9 a10 t cy x))), (h0, .inr (12, mO q (upd i 52 (o_g_reading_52 i a9 a10 t cy x)) L)), ((q 9), .inl (g.2 0, 6, .inl a9)), ((q 10), .inl (g.2 0, 6, .inl a10))] H := by rw [e90, e91, e92, e93]; exact hP
      have hD : va_D A [((q 53), .inl (g.2 0, 20, .inl (o_g_reading_q53 i a53 a9 a10 t cy x))), ((q 54), .inl (g.2 0, 20, .inl (o_g_reading_q54 i a54 a9 a10 t cy x))), ((q 55), .inl (g.2 0, 20, .inl (o_g_reading_q55 i a55 a9 a10 t cy x))), (h0, .inr (12, mO q (upd i 52 (o_g_reading_52 i a9 a10 t cy x)) L)), ((q 9), .inl (g.2 0, 6, .inl a9)), ((q 10), .inl (g.2 0, 6, .inl a10))] := by rw [e90, e91, e92, e93]; exact hD
      exact retI C hS () (by unfold r_g_reading; rw [if_pos c1, if_neg c2, if_neg c3, if_pos c4]) (hP.pick [3, 0, 1, 2, 4, 5] rfl) (hD.sub [3, 0, 1, 2, 4, 5] rfl rfl) (Nat.le_of_ble_eq_true rfl) (Nat.le_of_ble_eq_true rfl) dX12_reading_51
    refine lv_bipush (v := -2) hx hb dX12_reading_37 (by decide) ?_
    have e90 : (o_g_reading_52 i a9 a10 t cy x) = (i 52) := by unfold o_g_reading_52; rw [if_pos c1, if_neg c2, if_pos c3]
    have e91 : (o_g_reading_q53 i a53 a9 a10 t cy x) = a53 := by unfold o_g_reading_q53; rw [if_pos c1, if_neg c2, if_pos c3]
    have e92 : (o_g_reading_q54 i a54 a9 a10 t cy x) = a54 := by unfold o_g_reading_q54; rw [if_pos c1, if_neg c2, if_pos c3]
    have e93 : (o_g_reading_q55 i a55 a9 a10 t cy x) = a55 := by unfold o_g_reading_q55; rw [if_pos c1, if_neg c2, if_pos c3]
    have hP : va_P g.1 vwCl [((q 53), .inl (g.2 0, 20, .inl (o_g_reading_q53 i a53 a9 a10 t cy x))), ((q 54), .inl (g.2 0, 20, .inl (o_g_reading_q54 i a54 a9 a10 t cy x))), ((q 55), .inl (g.2 0, 20, .inl (o_g_reading_q55 i a55 a9 a10 t cy x))), (h0, .inr (12, mO q (upd i 52 (o_g_reading_52 i a9 a10 t cy x)) L)), ((q 9), .inl (g.2 0, 6, .inl a9)), ((q 10), .inl (g.2 0, 6, .inl a10))] H := by rw [e90, e91, e92, e93]; exact hP
    have hD : va_D A [((q 53), .inl (g.2 0, 20, .inl (o_g_reading_q53 i a53 a9 a10 t cy x))), ((q 54), .inl (g.2 0, 20, .inl (o_g_reading_q54 i a54 a9 a10 t cy x))), ((q 55), .inl (g.2 0, 20, .inl (o_g_reading_q55 i a55 a9 a10 t cy x))), (h0, .inr (12, mO q (upd i 52 (o_g_reading_52 i a9 a10 t cy x)) L)), ((q 9), .inl (g.2 0, 6, .inl a9)), ((q 10), .inl (g.2 0, 6, .inl a10))] := by rw [e90, e91, e92, e93]; exact hD
    exact retI C hS () (by unfold r_g_reading; rw [if_pos c1, if_neg c2, if_pos c3]) (hP.pick [3, 0, 1, 2, 4, 5] rfl) (hD.sub [3, 0, 1, 2, 4, 5] rfl rfl) (Nat.le_of_ble_eq_true rfl) (Nat.le_of_ble_eq_true rfl) dX12_reading_39
  refine lv_iconst (v := -1) hx hb dX12_reading_8 (by decide) ?_
  have e90 : (o_g_reading_52 i a9 a10 t cy x) = (i 52) := by unfold o_g_reading_52; rw [if_neg c1]
  have e91 : (o_g_reading_q53 i a53 a9 a10 t cy x) = a53 := by unfold o_g_reading_q53; rw [if_neg c1]
  have e92 : (o_g_reading_q54 i a54 a9 a10 t cy x) = a54 := by unfold o_g_reading_q54; rw [if_neg c1]
  have e93 : (o_g_reading_q55 i a55 a9 a10 t cy x) = a55 := by unfold o_g_reading_q55; rw [if_neg c1]
  have hP : va_P g.1 vwCl [((q 53), .inl (g.2 0, 20, .inl (o_g_reading_q53 i a53 a9 a10 t cy x))), ((q 54), .inl (g.2 0, 20, .inl (o_g_reading_q54 i a54 a9 a10 t cy x))), ((q 55), .inl (g.2 0, 20, .inl (o_g_reading_q55 i a55 a9 a10 t cy x))), ((q 9), .inl (g.2 0, 6, .inl a9)), ((q 10), .inl (g.2 0, 6, .inl a10)), (h0, .inr (12, mO q (upd i 52 (o_g_reading_52 i a9 a10 t cy x)) L))] H := by rw [e90, e91, e92, e93]; exact hP
  have hD : va_D A [((q 53), .inl (g.2 0, 20, .inl (o_g_reading_q53 i a53 a9 a10 t cy x))), ((q 54), .inl (g.2 0, 20, .inl (o_g_reading_q54 i a54 a9 a10 t cy x))), ((q 55), .inl (g.2 0, 20, .inl (o_g_reading_q55 i a55 a9 a10 t cy x))), ((q 9), .inl (g.2 0, 6, .inl a9)), ((q 10), .inl (g.2 0, 6, .inl a10)), (h0, .inr (12, mO q (upd i 52 (o_g_reading_52 i a9 a10 t cy x)) L))] := by rw [e90, e91, e92, e93]; exact hD
  exact retI C hS () (by unfold r_g_reading; rw [if_neg c1]) (hP.pick [5, 0, 1, 2, 3, 4] rfl) (hD.sub [5, 0, 1, 2, 3, 4] rfl rfl) (Nat.le_of_ble_eq_true rfl) (Nat.le_of_ble_eq_true rfl) dX12_reading_9
theorem hg_X12_burst_X12 : ∀ w ∈ wsX120, w ∈ wsX12_burst := fun w h => List.mem_cons_of_mem _ (List.mem_append_right _ h)
def r_g_burst (i : Nat → Int32) (a18 : Nat → Int32) (cy : Int32) (v : Int32) : Int32 := (if (r_g_noCylinder i cy) = 0 then (if (a18 (cy.toNatClampNeg)) = v then 0 else 1) else (-1))
def o_g_burst_q18 (i : Nat → Int32) (a18 : Nat → Int32) (cy : Int32) (v : Int32) : Nat → Int32 := (if (r_g_noCylinder i cy) = 0 then (if (a18 (cy.toNatClampNeg)) = v then (upd a18 (cy.toNatClampNeg) (vp_nar .boolean v)) else (upd a18 (cy.toNatClampNeg) (vp_nar .boolean v))) else a18)
set_option maxRecDepth 100000 in
set_option maxHeartbeats 4000000 in
theorem g_burst (l : Launch) (g : Gt) (h0 : Nat) (q : Nat → Nat) (i : Nat → Int32) (L : Nat → Int64) (a18 : Nat → Int32) (cy : Int32) (v : Int32) (h7 : 0 ≤ (i 7).toInt ∧ (i 7).toInt ≤ 6) : Ctr l g yX12_burst wsX12_burst ({ frames := 2, cells := 0, slots := 0, locals := 46 } : Room) [.ref h0, .int cy, .int v] [(h0, .inr (12, mO q i L)), ((q 18), .inl (g.2 1, 6, .inl a18))] (fun A => QI g A (fun r (_ : Unit) => r = (r_g_burst i a18 cy v)) (fun _u : Unit => [(h0, .inr (12, mO q i L)), ((q 18), .inl (g.2 1, 6, .inl (o_g_burst_q18 i a18 cy v)))])) := by
  refine Ctr.of (cc := cX12_burst) (maxL := 4) (ret := (some .int)) (by decide) rfl (Nat.le_of_ble_eq_true rfl) ?_
  intro p e s m below meth c A ls H C hP hD hA hS hl
  obtain ⟨hx, hb, hr, hts, hown, hlocks, hml, hin, hKN⟩ := id C
  have hK := hKN.1
  have hN := hKN.2
  have F : CallFix p m c cX12_burst 4 s _ wsX12_burst yX12_burst.cls := ⟨hx, hb, hml, hown, hts⟩
  have hl : lv_has ls 4 [(0, .ref h0), (1, .int cy), (2, .int v)] := hl
  refine lv_aload_n hx hb dX12_burst_0 rfl (lv_at hl 0 rfl) ?_
  refine lv_iload_n hx hb dX12_burst_1 rfl (lv_at hl 1 rfl) ?_
  refine callIV (As := [.int cy]) (rest := []) (wr := [((q 18), .inl (g.2 1, 6, .inl a18))]) (Cn := RX12) C (g_noCylinder l g h0 q i L cy) 1 gX12_burst_X12_noCylinder rfl (by decide +kernel) ⟨(Nat.le_of_ble_eq_true rfl), (Nat.le_of_ble_eq_true rfl)⟩ [0] [1] hP hD hA hS rfl rfl rfl rfl (by decide) (k := 0) (ci := 12) rfl rfl rfl rfl hl.1 rfl (Nat.le_of_ble_eq_true rfl) dX12_burst_2 ⟨(Nat.le_of_ble_eq_true rfl), (Nat.le_of_ble_eq_true rfl)⟩ (fun r _u H locs hw hP hD hS => ?_)
  have hP : va_P g.1 vwCl [((q 18), .inl (g.2 1, 6, .inl a18)), (h0, .inr (12, mO q i L))] H := hP
  have hD : va_D A [((q 18), .inl (g.2 1, 6, .inl a18)), (h0, .inr (12, mO q i L))] := hD
  subst hw
  refine lv_if_eq (tgt := 10) hx hb dX12_burst_5 (by decide) (fun c1 => ?_) (fun c1 => ?_)
  · refine lv_aload_n hx hb dX12_burst_10 rfl (lv_at hl 0 rfl) ?_
    refine va_get (D := g.1) (ci := 12) (v := .ref (q 18)) (C := RX12) (T := TX12) (N := 66) hx hb hts hg_X12_burst_X12 hown hK hP 1 rfl rfl 18 (by decide) (hts (.fieldLink RX12 52 "OilPushModel" "isBurst" "[Z") (by decide +kernel)) (fun _ h => h) rfl dX12_burst_11 ?_
    refine lv_iload_n hx hb dX12_burst_14 rfl (lv_at hl 1 rfl) ?_
    refine va_zald hx hb hK hP 0 1 rfl rfl (noCyl_in h7 c1).1 dX12_burst_15 ?_
    refine lv_iload_n hx hb dX12_burst_16 rfl (lv_at hl 2 rfl) ?_
    refine lv_icmp_eq (tgt := 24) hx hb dX12_burst_17 (by decide) (fun c2 => ?_) (fun c2 => ?_)
    · refine lv_iconst (v := 0) hx hb dX12_burst_24 (by decide) ?_
      refine lv_istore_n (lv' := [(3, .int 0), (0, .ref h0), (1, .int cy), (2, .int v)]) hx hb dX12_burst_25 rfl hl (by decide) rfl (fun ls hl => ?_)
      refine lv_aload_n hx hb dX12_burst_26 rfl (lv_at hl 1 rfl) ?_
      refine va_get (D := g.1) (ci := 12) (v := .ref (q 18)) (C := RX12) (T := TX12) (N := 66) hx hb hts hg_X12_burst_X12 hown hK hP 1 rfl rfl 18 (by decide) (hts (.fieldLink RX12 52 "OilPushModel" "isBurst" "[Z") (by decide +kernel)) (fun _ h => h) rfl dX12_burst_27 ?_
      refine lv_iload_n hx hb dX12_burst_30 rfl (lv_at hl 2 rfl) ?_
      refine lv_iload_n hx hb dX12_burst_31 rfl (lv_at hl 3 rfl) ?_
      refine va_zast hx hb hK hP hD hS 0 1 rfl rfl (noCyl_in h7 c1).1 dX12_burst_32 (fun H locs hP hD hS => ?_)
      have hP : va_P g.1 vwCl [((q 18), .inl (g.2 1, 6, .inl (upd a18 (cy.toNatClampNeg) (vp_nar .boolean v)))), (h0, .inr (12, mO q i L))] H := hP
      have hD : va_D A [((q 18), .inl (g.2 1, 6, .inl (upd a18 (cy.toNatClampNeg) (vp_nar .boolean v)))), (h0, .inr (12, mO q i L))] := hD
      refine lv_iload_n hx hb dX12_burst_33 rfl (lv_at hl 0 rfl) ?_
      refine lv_if_eq (tgt := 41) hx hb dX12_burst_34 (by decide) (fun _ => ?_) (fun cc0 => absurd cc0 (by decide))
      refine lv_iconst (v := 0) hx hb dX12_burst_41 (by decide) ?_
      have e90 : (o_g_burst_q18 i a18 cy v) = (upd a18 (cy.toNatClampNeg) (vp_nar .boolean v)) := by unfold o_g_burst_q18; rw [if_pos c1, if_pos c2]
      have hP : va_P g.1 vwCl [((q 18), .inl (g.2 1, 6, .inl (o_g_burst_q18 i a18 cy v))), (h0, .inr (12, mO q i L))] H := by rw [e90]; exact hP
      have hD : va_D A [((q 18), .inl (g.2 1, 6, .inl (o_g_burst_q18 i a18 cy v))), (h0, .inr (12, mO q i L))] := by rw [e90]; exact hD
      exact retI C hS () (by unfold r_g_burst; rw [if_pos c1, if_pos c2]) (hP.pick [1, 0] rfl) (hD.sub [1, 0] rfl rfl) (Nat.le_of_ble_eq_true rfl) (Nat.le_of_ble_eq_true rfl) dX12_burst_42
    refine lv_iconst (v := 1) hx hb dX12_burst_20 (by decide) ?_
    refine lv_goto (tgt := 25) hx hb dX12_burst_21 (by decide) ?_
    refine lv_istore_n (lv' := [(3, .int 1), (0, .ref h0), (1, .int cy), (2, .int v)]) hx hb dX12_burst_25 rfl hl (by decide) rfl (fun ls hl => ?_)
    refine lv_aload_n hx hb dX12_burst_26 rfl (lv_at hl 1 rfl) ?_
    refine va_get (D := g.1) (ci := 12) (v := .ref (q 18)) (C := RX12) (T := TX12) (N := 66) hx hb hts hg_X12_burst_X12 hown hK hP 1 rfl rfl 18 (by decide) (hts (.fieldLink RX12 52 "OilPushModel" "isBurst" "[Z") (by decide +kernel)) (fun _ h => h) rfl dX12_burst_27 ?_
    refine lv_iload_n hx hb dX12_burst_30 rfl (lv_at hl 2 rfl) ?_
    refine lv_iload_n hx hb dX12_burst_31 rfl (lv_at hl 3 rfl) ?_
    refine va_zast hx hb hK hP hD hS 0 1 rfl rfl (noCyl_in h7 c1).1 dX12_burst_32 (fun H locs hP hD hS => ?_)
    have hP : va_P g.1 vwCl [((q 18), .inl (g.2 1, 6, .inl (upd a18 (cy.toNatClampNeg) (vp_nar .boolean v)))), (h0, .inr (12, mO q i L))] H := hP
    have hD : va_D A [((q 18), .inl (g.2 1, 6, .inl (upd a18 (cy.toNatClampNeg) (vp_nar .boolean v)))), (h0, .inr (12, mO q i L))] := hD
    refine lv_iload_n hx hb dX12_burst_33 rfl (lv_at hl 0 rfl) ?_
    refine lv_if_eq (tgt := 41) hx hb dX12_burst_34 (by decide) (fun cc0 => absurd cc0 (by decide)) (fun _ => ?_)
    refine lv_iconst (v := 1) hx hb dX12_burst_37 (by decide) ?_
    refine lv_goto (tgt := 42) hx hb dX12_burst_38 (by decide) ?_
    have e90 : (o_g_burst_q18 i a18 cy v) = (upd a18 (cy.toNatClampNeg) (vp_nar .boolean v)) := by unfold o_g_burst_q18; rw [if_pos c1, if_neg c2]
    have hP : va_P g.1 vwCl [((q 18), .inl (g.2 1, 6, .inl (o_g_burst_q18 i a18 cy v))), (h0, .inr (12, mO q i L))] H := by rw [e90]; exact hP
    have hD : va_D A [((q 18), .inl (g.2 1, 6, .inl (o_g_burst_q18 i a18 cy v))), (h0, .inr (12, mO q i L))] := by rw [e90]; exact hD
    exact retI C hS () (by unfold r_g_burst; rw [if_pos c1, if_neg c2]) (hP.pick [1, 0] rfl) (hD.sub [1, 0] rfl rfl) (Nat.le_of_ble_eq_true rfl) (Nat.le_of_ble_eq_true rfl) dX12_burst_42
  refine lv_iconst (v := -1) hx hb dX12_burst_8 (by decide) ?_
  have e90 : (o_g_burst_q18 i a18 cy v) = a18 := by unfold o_g_burst_q18; rw [if_neg c1]
  have hP : va_P g.1 vwCl [((q 18), .inl (g.2 1, 6, .inl (o_g_burst_q18 i a18 cy v))), (h0, .inr (12, mO q i L))] H := by rw [e90]; exact hP
  have hD : va_D A [((q 18), .inl (g.2 1, 6, .inl (o_g_burst_q18 i a18 cy v))), (h0, .inr (12, mO q i L))] := by rw [e90]; exact hD
  exact retI C hS () (by unfold r_g_burst; rw [if_neg c1]) (hP.pick [1, 0] rfl) (hD.sub [1, 0] rfl rfl) (Nat.le_of_ble_eq_true rfl) (Nat.le_of_ble_eq_true rfl) dX12_burst_9
theorem hg_X12_mayBeDone_X12 : ∀ w ∈ wsX120, w ∈ wsX12_mayBeDone := fun w h => List.mem_cons_of_mem _ (List.mem_append_right _ h)
def r_g_mayBeDone (a25 : Nat → Int32) (a26 : Nat → Int32) (a11 : Nat → Int32) (a9 : Nat → Int32) (a10 : Nat → Int32) (k : Int32) : Int32 := (if (a26 (k.toNatClampNeg)) = 0 then 1 else (if (a26 (k.toNatClampNeg)) = 1 then (if (a11 ((a25 (k.toNatClampNeg)).toNatClampNeg)) = ((a9 ((a25 (k.toNatClampNeg)).toNatClampNeg)) * (a10 ((a25 (k.toNatClampNeg)).toNatClampNeg))) then 1 else 0) else (if (a11 ((a25 (k.toNatClampNeg)).toNatClampNeg)) = 0 then 1 else 0)))
theorem nz_r_g_mayBeDone (a25 : Nat → Int32) (a26 : Nat → Int32) (a11 : Nat → Int32) (a9 : Nat → Int32) (a10 : Nat → Int32) (k : Int32) : narrow .boolean (.int (r_g_mayBeDone a25 a26 a11 a9 a10 k)) = .int (r_g_mayBeDone a25 a26 a11 a9 a10 k) := by unfold r_g_mayBeDone; (repeat' split) <;> rfl
set_option maxRecDepth 100000 in
set_option maxHeartbeats 4000000 in
theorem g_mayBeDone (l : Launch) (g : Gt) (h0 : Nat) (q : Nat → Nat) (i : Nat → Int32) (L : Nat → Int64) (a25 : Nat → Int32) (a26 : Nat → Int32) (a11 : Nat → Int32) (a9 : Nat → Int32) (a10 : Nat → Int32) (k : Int32) (hk : vp_in k 30) (hc : vp_in (a25 (k.toNatClampNeg)) 6) : Ctr l g yX12_mayBeDone wsX12_mayBeDone ({ frames := 1, cells := 0, slots := 0, locals := 21 } : Room) [.ref h0, .int k] [(h0, .inr (12, mO q i L)), ((q 25), .inl (g.2 0, 30, .inl a25)), ((q 26), .inl (g.2 0, 30, .inl a26)), ((q 11), .inl (g.2 0, 6, .inl a11)), ((q 9), .inl (g.2 0, 6, .inl a9)), ((q 10), .inl (g.2 0, 6, .inl a10))] (fun A => QI g A (fun r (_ : Unit) => r = (r_g_mayBeDone a25 a26 a11 a9 a10 k)) (fun _u : Unit => [(h0, .inr (12, mO q i L)), ((q 25), .inl (g.2 0, 30, .inl a25)), ((q 26), .inl (g.2 0, 30, .inl a26)), ((q 11), .inl (g.2 0, 6, .inl a11)), ((q 9), .inl (g.2 0, 6, .inl a9)), ((q 10), .inl (g.2 0, 6, .inl a10))])) := by
  refine Ctr.of (cc := cX12_mayBeDone) (maxL := 3) (ret := (some .boolean)) (by decide) rfl (Nat.le_of_ble_eq_true rfl) ?_
  intro p e s m below meth c A ls H C hP hD hA hS hl
  obtain ⟨hx, hb, hr, hts, hown, hlocks, hml, hin, hKN⟩ := id C
  have hK := hKN.1
  have hN := hKN.2
  have F : CallFix p m c cX12_mayBeDone 3 s _ wsX12_mayBeDone yX12_mayBeDone.cls := ⟨hx, hb, hml, hown, hts⟩
  have hl : lv_has ls 3 [(0, .ref h0), (1, .int k)] := hl
  refine lv_aload_n hx hb dX12_mayBeDone_0 rfl (lv_at hl 0 rfl) ?_
  refine va_get (D := g.1) (ci := 12) (v := .ref (q 25)) (C := RX12) (T := TX12) (N := 66) hx hb hts hg_X12_mayBeDone_X12 hown hK hP 0 rfl rfl 25 (by decide) (hts (.fieldLink RX12 59 "OilPushModel" "orderC" "[I") (by decide +kernel)) (fun _ h => h) rfl dX12_mayBeDone_1 ?_
  refine lv_iload_n hx hb dX12_mayBeDone_4 rfl (lv_at hl 1 rfl) ?_
  refine va_iald hx hb hK hP 1 0 rfl rfl hk dX12_mayBeDone_5 ?_
  refine lv_istore_n (lv' := [(2, .int (a25 (k.toNatClampNeg))), (0, .ref h0), (1, .int k)]) hx hb dX12_mayBeDone_6 rfl hl (by decide) rfl (fun ls hl => ?_)
  refine lv_aload_n hx hb dX12_mayBeDone_7 rfl (lv_at hl 1 rfl) ?_
  refine va_get (D := g.1) (ci := 12) (v := .ref (q 26)) (C := RX12) (T := TX12) (N := 66) hx hb hts hg_X12_mayBeDone_X12 hown hK hP 0 rfl rfl 26 (by decide) (hts (.fieldLink RX12 62 "OilPushModel" "orderEnd" "[I") (by decide +kernel)) (fun _ h => h) rfl dX12_mayBeDone_8 ?_
  refine lv_iload_n hx hb dX12_mayBeDone_11 rfl (lv_at hl 2 rfl) ?_
  refine va_iald hx hb hK hP 2 0 rfl rfl hk dX12_mayBeDone_12 ?_
  refine lv_if_eq (tgt := 52) hx hb dX12_mayBeDone_13 (by decide) (fun c1 => ?_) (fun c1 => ?_)
  · refine lv_iconst (v := 1) hx hb dX12_mayBeDone_52 (by decide) ?_
    refine lv_goto (tgt := 57) hx hb dX12_mayBeDone_53 (by decide) ?_
    exact retZ C rfl hS () (by unfold r_g_mayBeDone; rw [if_pos c1]) (hP.pick [0, 1, 2, 3, 4, 5] rfl) (hD.sub [0, 1, 2, 3, 4, 5] rfl rfl) (Nat.le_of_ble_eq_true rfl) (Nat.le_of_ble_eq_true rfl) dX12_mayBeDone_57
  refine lv_aload_n hx hb dX12_mayBeDone_16 rfl (lv_at hl 1 rfl) ?_
  refine va_get (D := g.1) (ci := 12) (v := .ref (q 26)) (C := RX12) (T := TX12) (N := 66) hx hb hts hg_X12_mayBeDone_X12 hown hK hP 0 rfl rfl 26 (by decide) (hts (.fieldLink RX12 62 "OilPushModel" "orderEnd" "[I") (by decide +kernel)) (fun _ h => h) rfl dX12_mayBeDone_17 ?_
  refine lv_iload_n hx hb dX12_mayBeDone_20 rfl (lv_at hl 2 rfl) ?_
  refine va_iald hx hb hK hP 2 0 rfl rfl hk dX12_mayBeDone_21 ?_
  refine lv_iconst (v := 1) hx hb dX12_mayBeDone_22 (by decide) ?_
  refine lv_icmp_ne (tgt := 43) hx hb dX12_mayBeDone_23 (by decide) (fun c2 => ?_) (fun c2 => ?_)
  · refine lv_aload_n hx hb dX12_mayBeDone_43 rfl (lv_at hl 1 rfl) ?_
    refine va_get (D := g.1) (ci := 12) (v := .ref (q 11)) (C := RX12) (T := TX12) (N := 66) hx hb hts hg_X12_mayBeDone_X12 hown hK hP 0 rfl rfl 11 (by decide) (hts (.fieldLink RX12 31 "OilPushModel" "oil" "[I") (by decide +kernel)) (fun _ h => h) rfl dX12_mayBeDone_44 ?_
    refine lv_iload_n hx hb dX12_mayBeDone_47 rfl (lv_at hl 0 rfl) ?_
    refine va_iald hx hb hK hP 3 0 rfl rfl hc dX12_mayBeDone_48 ?_
    refine lv_if_ne (tgt := 56) hx hb dX12_mayBeDone_49 (by decide) (fun c3 => ?_) (fun c3 => ?_)
    · refine lv_iconst (v := 0) hx hb dX12_mayBeDone_56 (by decide) ?_
      exact retZ C rfl hS () (by unfold r_g_mayBeDone; rw [if_neg c1, if_neg c2, if_neg c3]) (hP.pick [0, 1, 2, 3, 4, 5] rfl) (hD.sub [0, 1, 2, 3, 4, 5] rfl rfl) (Nat.le_of_ble_eq_true rfl) (Nat.le_of_ble_eq_true rfl) dX12_mayBeDone_57
    refine lv_iconst (v := 1) hx hb dX12_mayBeDone_52 (by decide) ?_
    refine lv_goto (tgt := 57) hx hb dX12_mayBeDone_53 (by decide) ?_
    exact retZ C rfl hS () (by unfold r_g_mayBeDone; rw [if_neg c1, if_neg c2, if_pos c3]) (hP.pick [0, 1, 2, 3, 4, 5] rfl) (hD.sub [0, 1, 2, 3, 4, 5] rfl rfl) (Nat.le_of_ble_eq_true rfl) (Nat.le_of_ble_eq_true rfl) dX12_mayBeDone_57
  refine lv_aload_n hx hb dX12_mayBeDone_26 rfl (lv_at hl 1 rfl) ?_
  refine va_get (D := g.1) (ci := 12) (v := .ref (q 11)) (C := RX12) (T := TX12) (N := 66) hx hb hts hg_X12_mayBeDone_X12 hown hK hP 0 rfl rfl 11 (by decide) (hts (.fieldLink RX12 31 "OilPushModel" "oil" "[I") (by decide +kernel)) (fun _ h => h) rfl dX12_mayBeDone_27 ?_
  refine lv_iload_n hx hb dX12_mayBeDone_30 rfl (lv_at hl 0 rfl) ?_
  refine va_iald hx hb hK hP 3 0 rfl rfl hc dX12_mayBeDone_31 ?_
  refine lv_aload_n hx hb dX12_mayBeDone_32 rfl (lv_at hl 1 rfl) ?_
  refine lv_iload_n hx hb dX12_mayBeDone_33 rfl (lv_at hl 0 rfl) ?_
  refine callIV (As := [.int (a25 (k.toNatClampNeg))]) (rest := [.int (a11 ((a25 (k.toNatClampNeg)).toNatClampNeg))]) (wr := [((q 25), .inl (g.2 0, 30, .inl a25)), ((q 26), .inl (g.2 0, 30, .inl a26)), ((q 11), .inl (g.2 0, 6, .inl a11))]) (Cn := RX12) C (g_room l g h0 q i L a9 a10 (a25 (k.toNatClampNeg)) hc) 1 gX12_mayBeDone_X12_room rfl (by decide +kernel) ⟨(Nat.le_of_ble_eq_true rfl), (Nat.le_of_ble_eq_true rfl)⟩ [0, 4, 5] [1, 2, 3] hP hD hA hS rfl rfl rfl rfl (by decide) (k := 0) (ci := 12) rfl rfl rfl rfl hl.1 rfl (Nat.le_of_ble_eq_true rfl) dX12_mayBeDone_34 ⟨(Nat.le_of_ble_eq_true rfl), (Nat.le_of_ble_eq_true rfl)⟩ (fun r _u H locs hw hP hD hS => ?_)
  have hP : va_P g.1 vwCl [((q 25), .inl (g.2 0, 30, .inl a25)), ((q 26), .inl (g.2 0, 30, .inl a26)), ((q 11), .inl (g.2 0, 6, .inl a11)), (h0, .inr (12, mO q i L)), ((q 9), .inl (g.2 0, 6, .inl a9)), ((q 10), .inl (g.2 0, 6, .inl a10))] H := hP
  have hD : va_D A [((q 25), .inl (g.2 0, 30, .inl a25)), ((q 26), .inl (g.2 0, 30, .inl a26)), ((q 11), .inl (g.2 0, 6, .inl a11)), (h0, .inr (12, mO q i L)), ((q 9), .inl (g.2 0, 6, .inl a9)), ((q 10), .inl (g.2 0, 6, .inl a10))] := hD
  subst hw
  refine lv_icmp_ne (tgt := 56) hx hb dX12_mayBeDone_37 (by decide) (fun c4 => ?_) (fun c4 => ?_)
  · refine lv_iconst (v := 0) hx hb dX12_mayBeDone_56 (by decide) ?_
    exact retZ C rfl hS () (by unfold r_g_mayBeDone; rw [if_neg c1, if_pos c2, if_neg c4]) (hP.pick [3, 0, 1, 2, 4, 5] rfl) (hD.sub [3, 0, 1, 2, 4, 5] rfl rfl) (Nat.le_of_ble_eq_true rfl) (Nat.le_of_ble_eq_true rfl) dX12_mayBeDone_57
  refine lv_goto (tgt := 52) hx hb dX12_mayBeDone_40 (by decide) ?_
  refine lv_iconst (v := 1) hx hb dX12_mayBeDone_52 (by decide) ?_
  refine lv_goto (tgt := 57) hx hb dX12_mayBeDone_53 (by decide) ?_
  exact retZ C rfl hS () (by unfold r_g_mayBeDone; rw [if_neg c1, if_pos c2, if_pos c4]) (hP.pick [3, 0, 1, 2, 4, 5] rfl) (hD.sub [3, 0, 1, 2, 4, 5] rfl rfl) (Nat.le_of_ble_eq_true rfl) (Nat.le_of_ble_eq_true rfl) dX12_mayBeDone_57
