def mF (q : Nat → Nat) : List Value := [.int 0, .ref (q 1), .ref (q 2), .ref (q 3), .ref (q 4), .int 0, .int 100, .int 0, .ref (q 8), .ref (q 9), .ref (q 10), .ref (q 11), .ref (q 12), .ref (q 13), .ref (q 14), .ref (q 15), .ref (q 16), .ref (q 17), .ref (q 18), .ref (q 19), .int 0, .int 0, .int 1, .int 0, .int 0, .ref (q 25), .ref (q 26), .ref (q 27), .ref (q 28), .int 0, .int 0, .int 0, .int 0, .int 0, .int 0, .int 0, .ref (q 36), .long 0, .long 0, .long 0, .int 0, .ref (q 41), .ref (q 42), .ref (q 43), .ref (q 44), .int 0, .int 0, .ref (q 47), .ref (q 48), .ref (q 49), .int 0, .int 0, .int 0, .ref (q 53), .ref (q 54), .ref (q 55), .ref (q 56), .ref (q 57), .ref (q 58), .ref (q 59), .ref (q 60), .ref (q 61), .ref (q 62), .ref (q 63), .int 0, .int 0]
def mSz : Nat → Int32 := upd (upd (upd (upd z0 0 (-1)) 1 (-1)) 2 (-1)) 3 (-1)
theorem mSz_at {k : Int32} (h : vp_in k 4) : mSz (k.toNatClampNeg) = -1 := by
  obtain ⟨j, hj, e⟩ := vp_in_of h (by decide)
  rw [e, nI_clamp (by omega)]
  rcases (show j = 0 ∨ j = 1 ∨ j = 2 ∨ j = 3 by omega) with rfl | rfl | rfl | rfl <;> decide
theorem hi_X12_refused_X12 : ∀ w ∈ wsX120, w ∈ wsX12_refused := fun w h => List.mem_cons_of_mem _ (List.mem_append_right _ h)
set_option maxRecDepth 100000 in
set_option maxHeartbeats 4000000 in
theorem m_refused (l : Launch) (g : Gt) (h0 : Nat) (q : Nat → Nat) (code_ : Int32)  : Ctr l g yX12_refused wsX12_refused ({ frames := 0, cells := 0, slots := 0, locals := 0 } : Room) [.ref h0, .int code_] [(h0, .inr (12, (mF q)))] (fun A => QI g A (fun r (_ : Unit) => r = code_) (fun _u : Unit => [])) := by
  refine Ctr.of (cc := cX12_refused) (maxL := 2) (ret := (some .int)) (by decide) rfl (Nat.le_of_ble_eq_true rfl) ?_
  intro p e s m below meth c A ls H C hP hD hA hS hl
  obtain ⟨hx, hb, hr, hts, hown, hlocks, hml, hin, hKN⟩ := id C
  have hK := hKN.1
  have hN := hKN.2
  have F : CallFix p m c cX12_refused 2 s _ wsX12_refused yX12_refused.cls := ⟨hx, hb, hml, hown, hts⟩
  have hl : lv_has ls 2 [(0, .ref h0), (1, .int code_)] := hl
  refine lv_aload_n hx hb dX12_refused_0 rfl (lv_at hl 0 rfl) ?_
  refine lv_iconst (v := 0) hx hb dX12_refused_1 (by decide) ?_
  refine va_put (D := g.1) (ci := 12) (v := .int 0) (ty := .int) (C := RX12) (T := TX12) (N := 66) hx hb hts hi_X12_refused_X12 tyX12 tyX12_ok nmX12 hown hK hP hD hS 0 rfl rfl 0 (by decide) (hts (.fieldLink RX12 141 "OilPushModel" "fault" "I") (by decide +kernel)) (fun _ h => h) rfl (by decide +kernel) rfl rfl (Nat.le_of_ble_eq_true rfl) dX12_refused_2 (fun H locs hP hD hS => ?_)
  have hP : va_P g.1 vwCl [(h0, .inr (12, (mF q)))] H := hP
  have hD : va_D A [(h0, .inr (12, (mF q)))] := hD
  refine lv_iload_n hx hb dX12_refused_5 rfl (lv_at hl 1 rfl) ?_
  exact retI C hS () rfl (hP.pick [] rfl) (hD.sub [] rfl rfl) (Nat.le_of_ble_eq_true rfl) (Nat.le_of_ble_eq_true rfl) dX12_refused_6
theorem hi_X12_failed_X12 : ∀ w ∈ wsX120, w ∈ wsX12_failed := fun w h => List.mem_cons_of_mem _ (List.mem_append_right _ h)
set_option maxRecDepth 100000 in
set_option maxHeartbeats 4000000 in
theorem m_failed (l : Launch) (g : Gt) (h0 : Nat) (q : Nat → Nat) (f : Int32)  : Ctr l g yX12_failed wsX12_failed ({ frames := 0, cells := 0, slots := 0, locals := 0 } : Room) [.ref h0, .int f] [(h0, .inr (12, (mF q)))] (fun A => QI g A (fun r (_ : Unit) => r = ((-10) - f)) (fun _u : Unit => [])) := by
  refine Ctr.of (cc := cX12_failed) (maxL := 2) (ret := (some .int)) (by decide) rfl (Nat.le_of_ble_eq_true rfl) ?_
  intro p e s m below meth c A ls H C hP hD hA hS hl
  obtain ⟨hx, hb, hr, hts, hown, hlocks, hml, hin, hKN⟩ := id C
  have hK := hKN.1
  have hN := hKN.2
  have F : CallFix p m c cX12_failed 2 s _ wsX12_failed yX12_failed.cls := ⟨hx, hb, hml, hown, hts⟩
  have hl : lv_has ls 2 [(0, .ref h0), (1, .int f)] := hl
  refine lv_aload_n hx hb dX12_failed_0 rfl (lv_at hl 0 rfl) ?_
  refine lv_iload_n hx hb dX12_failed_1 rfl (lv_at hl 1 rfl) ?_
  refine va_put (D := g.1) (ci := 12) (v := .int f) (ty := .int) (C := RX12) (T := TX12) (N := 66) hx hb hts hi_X12_failed_X12 tyX12 tyX12_ok nmX12 hown hK hP hD hS 0 rfl rfl 0 (by decide) (hts (.fieldLink RX12 141 "OilPushModel" "fault" "I") (by decide +kernel)) (fun _ h => h) rfl (by decide +kernel) rfl rfl (Nat.le_of_ble_eq_true rfl) dX12_failed_2 (fun H locs hP hD hS => ?_)
  have hP : va_P g.1 vwCl [(h0, .inr (12, ((mF q).set 0 (.int f))))] H := hP
  have hD : va_D A [(h0, .inr (12, ((mF q).set 0 (.int f))))] := hD
  refine lv_bipush (v := -10) hx hb dX12_failed_5 (by decide) ?_
  refine lv_iload_n hx hb dX12_failed_7 rfl (lv_at hl 1 rfl) ?_
  refine lv_isub hx hb dX12_failed_8 ?_
  exact retI C hS () rfl (hP.pick [] rfl) (hD.sub [] rfl rfl) (Nat.le_of_ble_eq_true rfl) (Nat.le_of_ble_eq_true rfl) dX12_failed_9
theorem hi_X12_failedLong_X12 : ∀ w ∈ wsX120, w ∈ wsX12_failedLong := fun w h => List.mem_cons_of_mem _ (List.mem_append_right _ h)
set_option maxRecDepth 100000 in
set_option maxHeartbeats 4000000 in
theorem m_failedLong (l : Launch) (g : Gt) (h0 : Nat) (q : Nat → Nat) (f : Int32)  : Ctr l g yX12_failedLong wsX12_failedLong ({ frames := 1, cells := 0, slots := 0, locals := 19 } : Room) [.ref h0, .int f] [(h0, .inr (12, (mF q)))] (fun A => QL g A (fun r (_ : Unit) => r = (-9223372036854775808)) (fun _u : Unit => [])) := by
  refine Ctr.of (cc := cX12_failedLong) (maxL := 2) (ret := (some .long)) (by decide) rfl (Nat.le_of_ble_eq_true rfl) ?_
  intro p e s m below meth c A ls H C hP hD hA hS hl
  obtain ⟨hx, hb, hr, hts, hown, hlocks, hml, hin, hKN⟩ := id C
  have hK := hKN.1
  have hN := hKN.2
  have F : CallFix p m c cX12_failedLong 2 s _ wsX12_failedLong yX12_failedLong.cls := ⟨hx, hb, hml, hown, hts⟩
  have hl : lv_has ls 2 [(0, .ref h0), (1, .int f)] := hl
  refine lv_aload_n hx hb dX12_failedLong_0 rfl (lv_at hl 0 rfl) ?_
  refine lv_iload_n hx hb dX12_failedLong_1 rfl (lv_at hl 1 rfl) ?_
  refine va_put (D := g.1) (ci := 12) (v := .int f) (ty := .int) (C := RX12) (T := TX12) (N := 66) hx hb hts hi_X12_failedLong_X12 tyX12 tyX12_ok nmX12 hown hK hP hD hS 0 rfl rfl 0 (by decide) (hts (.fieldLink RX12 141 "OilPushModel" "fault" "I") (by decide +kernel)) (fun _ h => h) rfl (by decide +kernel) rfl rfl (Nat.le_of_ble_eq_true rfl) dX12_failedLong_2 (fun H locs hP hD hS => ?_)
  have hP : va_P g.1 vwCl [(h0, .inr (12, ((mF q).set 0 (.int f))))] H := hP
  have hD : va_D A [(h0, .inr (12, ((mF q).set 0 (.int f))))] := hD
  refine pureLS (As := []) (rest := []) F (c_lost l) 0 gX12_failedLong_X12_lost rfl (by decide +kernel) rfl rfl ⟨(Nat.le_of_ble_eq_true rfl), (Nat.le_of_ble_eq_true rfl)⟩ (Nat.le_of_ble_eq_true rfl) (Nat.le_of_ble_eq_true rfl) rfl hl.1 rfl (Nat.le_of_ble_eq_true rfl) dX12_failedLong_5 ?_
  exact retL C hS () rfl (hP.pick [] rfl) (hD.sub [] rfl rfl) (Nat.le_of_ble_eq_true rfl) (Nat.le_of_ble_eq_true rfl) dX12_failedLong_8
theorem hi_X12_noCylinder_X12 : ∀ w ∈ wsX120, w ∈ wsX12_noCylinder := fun w h => List.mem_cons_of_mem _ (List.mem_append_right _ h)
set_option maxRecDepth 100000 in
set_option maxHeartbeats 4000000 in
theorem m_noCylinder (l : Launch) (g : Gt) (h0 : Nat) (q : Nat → Nat) (cy : Int32)  : Ctr l g yX12_noCylinder wsX12_noCylinder ({ frames := 1, cells := 0, slots := 0, locals := 25 } : Room) [.ref h0, .int cy] [(h0, .inr (12, (mF q)))] (fun A => QI g A (fun r (_ : Unit) => r = 1) (fun _u : Unit => [(h0, .inr (12, (mF q)))])) := by
  refine Ctr.of (cc := cX12_noCylinder) (maxL := 2) (ret := (some .boolean)) (by decide) rfl (Nat.le_of_ble_eq_true rfl) ?_
  intro p e s m below meth c A ls H C hP hD hA hS hl
  obtain ⟨hx, hb, hr, hts, hown, hlocks, hml, hin, hKN⟩ := id C
  have hK := hKN.1
  have hN := hKN.2
  have F : CallFix p m c cX12_noCylinder 2 s _ wsX12_noCylinder yX12_noCylinder.cls := ⟨hx, hb, hml, hown, hts⟩
  have hl : lv_has ls 2 [(0, .ref h0), (1, .int cy)] := hl
  refine lv_iload_n hx hb dX12_noCylinder_0 rfl (lv_at hl 1 rfl) ?_
  refine lv_i2l hx hb dX12_noCylinder_1 rfl ?_
  refine lv_lconst (v := 0) hx hb dX12_noCylinder_2 (by decide) ?_
  refine lv_aload_n hx hb dX12_noCylinder_3 rfl (lv_at hl 0 rfl) ?_
  refine va_get (D := g.1) (ci := 12) (v := .int 0) (C := RX12) (T := TX12) (N := 66) hx hb hts hi_X12_noCylinder_X12 hown hK hP 0 rfl rfl 7 (by decide) (hts (.fieldLink RX12 179 "OilPushModel" "cylinders" "I") (by decide +kernel)) (fun _ h => h) rfl dX12_noCylinder_4 ?_
  refine lv_i2l (v := 0) hx hb dX12_noCylinder_7 (by decide) ?_
  refine lv_lconst (v := 1) hx hb dX12_noCylinder_8 (by decide) ?_
  refine lv_lsub hx hb dX12_noCylinder_9 ?_
  refine nx_l (v := (-1)) (by decide) ?_
  refine pureIS (As := [.long (Int32.toInt64 cy), .long 0, .long (-1)]) (rest := []) F (c_in l (Int32.toInt64 cy) 0 (-1)) 3 gX12_noCylinder_X12_in rfl (by decide +kernel) rfl rfl ⟨(Nat.le_of_ble_eq_true rfl), (Nat.le_of_ble_eq_true rfl)⟩ (Nat.le_of_ble_eq_true rfl) (Nat.le_of_ble_eq_true rfl) rfl hl.1 rfl (Nat.le_of_ble_eq_true rfl) dX12_noCylinder_10 ?_
  refine lv_if_ne (tgt := 20) hx hb dX12_noCylinder_13 (by decide) (fun cc0 => absurd (in_none cy) cc0) (fun _ => ?_)
  refine lv_iconst (v := 1) hx hb dX12_noCylinder_16 (by decide) ?_
  refine lv_goto (tgt := 21) hx hb dX12_noCylinder_17 (by decide) ?_
  exact retZ C rfl hS () rfl (hP.pick [0] rfl) (hD.sub [0] rfl rfl) (Nat.le_of_ble_eq_true rfl) (Nat.le_of_ble_eq_true rfl) dX12_noCylinder_21
theorem hi_X12_noCell_X12 : ∀ w ∈ wsX120, w ∈ wsX12_noCell := fun w h => List.mem_cons_of_mem _ (List.mem_append_right _ h)
set_option maxRecDepth 100000 in
set_option maxHeartbeats 4000000 in
theorem m_noCell (l : Launch) (g : Gt) (h0 : Nat) (q : Nat → Nat) (k : Int32) (i : Int32) (hk : vp_in k 4) : Ctr l g yX12_noCell wsX12_noCell ({ frames := 0, cells := 0, slots := 0, locals := 0 } : Room) [.ref h0, .int k, .int i] [(h0, .inr (12, (mF q))), ((q 1), .inl (g.2 0, 4, .inl mSz))] (fun A => QI g A (fun r (_ : Unit) => r = 1) (fun _u : Unit => [(h0, .inr (12, (mF q))), ((q 1), .inl (g.2 0, 4, .inl mSz))])) := by
  refine Ctr.of (cc := cX12_noCell) (maxL := 3) (ret := (some .int)) (by decide) rfl (Nat.le_of_ble_eq_true rfl) ?_
  intro p e s m below meth c A ls H C hP hD hA hS hl
  obtain ⟨hx, hb, hr, hts, hown, hlocks, hml, hin, hKN⟩ := id C
  have hK := hKN.1
  have hN := hKN.2
  have F : CallFix p m c cX12_noCell 3 s _ wsX12_noCell yX12_noCell.cls := ⟨hx, hb, hml, hown, hts⟩
  have hl : lv_has ls 3 [(0, .ref h0), (1, .int k), (2, .int i)] := hl
  refine lv_aload_n hx hb dX12_noCell_0 rfl (lv_at hl 0 rfl) ?_
  refine va_get (D := g.1) (ci := 12) (v := .ref (q 1)) (C := RX12) (T := TX12) (N := 66) hx hb hts hi_X12_noCell_X12 hown hK hP 0 rfl rfl 1 (by decide) (hts (.fieldLink RX12 7 "OilPushModel" "sheetSize" "[I") (by decide +kernel)) (fun _ h => h) rfl dX12_noCell_1 ?_
  refine lv_iload_n hx hb dX12_noCell_4 rfl (lv_at hl 1 rfl) ?_
  refine va_iald hx hb hK hP 1 0 rfl rfl hk dX12_noCell_5 ?_
  refine nx_i (v := (-1)) (mSz_at hk) ?_
  refine lv_if_ge (tgt := 13) hx hb dX12_noCell_6 (by decide) (fun cc0 => absurd cc0 (by decide)) (fun _ => ?_)
  refine lv_iconst (v := 1) hx hb dX12_noCell_9 (by decide) ?_
  refine lv_goto (tgt := 36) hx hb dX12_noCell_10 (by decide) ?_
  exact retI C hS () rfl (hP.pick [0, 1] rfl) (hD.sub [0, 1] rfl rfl) (Nat.le_of_ble_eq_true rfl) (Nat.le_of_ble_eq_true rfl) dX12_noCell_36
theorem hi_X12_storePressure_X12 : ∀ w ∈ wsX120, w ∈ wsX12_storePressure := fun w h => List.mem_cons_of_mem _ (List.mem_append_right _ h)
set_option maxRecDepth 100000 in
set_option maxHeartbeats 4000000 in
theorem m_storeP (l : Launch) (g : Gt) (h0 : Nat) (q : Nat → Nat)  : Ctr l g yX12_storePressure wsX12_storePressure ({ frames := 0, cells := 0, slots := 0, locals := 0 } : Room) [.ref h0] [(h0, .inr (12, (mF q)))] (fun A => QI g A (fun r (_ : Unit) => r = 0) (fun _u : Unit => [(h0, .inr (12, (mF q)))])) := by
  refine Ctr.of (cc := cX12_storePressure) (maxL := 1) (ret := (some .int)) (by decide) rfl (Nat.le_of_ble_eq_true rfl) ?_
  intro p e s m below meth c A ls H C hP hD hA hS hl
  obtain ⟨hx, hb, hr, hts, hown, hlocks, hml, hin, hKN⟩ := id C
  have hK := hKN.1
  have hN := hKN.2
  have F : CallFix p m c cX12_storePressure 1 s _ wsX12_storePressure yX12_storePressure.cls := ⟨hx, hb, hml, hown, hts⟩
  have hl : lv_has ls 1 [(0, .ref h0)] := hl
  refine lv_aload_n hx hb dX12_storePressure_0 rfl (lv_at hl 0 rfl) ?_
  refine va_get (D := g.1) (ci := 12) (v := .int 0) (C := RX12) (T := TX12) (N := 66) hx hb hts hi_X12_storePressure_X12 hown hK hP 0 rfl rfl 21 (by decide) (hts (.fieldLink RX12 209 "OilPushModel" "first" "I") (by decide +kernel)) (fun _ h => h) rfl dX12_storePressure_1 ?_
  refine lv_aload_n hx hb dX12_storePressure_4 rfl (lv_at hl 0 rfl) ?_
  refine va_get (D := g.1) (ci := 12) (v := .int 0) (C := RX12) (T := TX12) (N := 66) hx hb hts hi_X12_storePressure_X12 hown hK hP 0 rfl rfl 23 (by decide) (hts (.fieldLink RX12 203 "OilPushModel" "kept" "I") (by decide +kernel)) (fun _ h => h) rfl dX12_storePressure_5 ?_
  refine lv_aload_n hx hb dX12_storePressure_8 rfl (lv_at hl 0 rfl) ?_
  refine va_get (D := g.1) (ci := 12) (v := .int 1) (C := RX12) (T := TX12) (N := 66) hx hb hts hi_X12_storePressure_X12 hown hK hP 0 rfl rfl 22 (by decide) (hts (.fieldLink RX12 133 "OilPushModel" "stiff" "I") (by decide +kernel)) (fun _ h => h) rfl dX12_storePressure_9 ?_
  refine lv_idiv hx hb dX12_storePressure_12 (by decide) ?_
  refine nx_i (v := 0) (by decide) ?_
  refine lv_iadd hx hb dX12_storePressure_13 ?_
  refine nx_i (v := 0) (by decide) ?_
  exact retI C hS () rfl (hP.pick [0] rfl) (hD.sub [0] rfl rfl) (Nat.le_of_ble_eq_true rfl) (Nat.le_of_ble_eq_true rfl) dX12_storePressure_14
theorem hi_X12_pump_X12 : ∀ w ∈ wsX120, w ∈ wsX12_pump := fun w h => List.mem_cons_of_mem _ (List.mem_append_right _ h)
def r_m_pump (what : Int32) (v : Int32) : Int32 := (if (r_c_in (Int32.toInt64 what) 0 1) = 0 then (-1) else (if (r_c_in (Int32.toInt64 v) (Int32.toInt64 what) 1000) = 0 then (-2) else (if what = 0 then (if what = 1 then 0 else 0) else (if what = 1 then 100 else 100))))
set_option maxRecDepth 100000 in
set_option maxHeartbeats 4000000 in
theorem m_pump (l : Launch) (g : Gt) (h0 : Nat) (q : Nat → Nat) (what : Int32) (v : Int32)  : Ctr l g yX12_pump wsX12_pump ({ frames := 1, cells := 0, slots := 0, locals := 25 } : Room) [.ref h0, .int what, .int v] [(h0, .inr (12, (mF q)))] (fun A => QI g A (fun r (_ : Unit) => r = (r_m_pump what v)) (fun _u : Unit => [])) := by
  refine Ctr.of (cc := cX12_pump) (maxL := 4) (ret := (some .int)) (by decide) rfl (Nat.le_of_ble_eq_true rfl) ?_
  intro p e s m below meth c A ls H C hP hD hA hS hl
  obtain ⟨hx, hb, hr, hts, hown, hlocks, hml, hin, hKN⟩ := id C
  have hK := hKN.1
  have hN := hKN.2
  have F : CallFix p m c cX12_pump 4 s _ wsX12_pump yX12_pump.cls := ⟨hx, hb, hml, hown, hts⟩
  have hl : lv_has ls 4 [(0, .ref h0), (1, .int what), (2, .int v)] := hl
  refine lv_iload_n hx hb dX12_pump_0 rfl (lv_at hl 1 rfl) ?_
  refine lv_i2l hx hb dX12_pump_1 rfl ?_
  refine lv_lconst (v := 0) hx hb dX12_pump_2 (by decide) ?_
  refine lv_lconst (v := 1) hx hb dX12_pump_3 (by decide) ?_
  refine pureIS (As := [.long (Int32.toInt64 what), .long 0, .long 1]) (rest := []) F (c_in l (Int32.toInt64 what) 0 1) 3 gX12_pump_X12_in rfl (by decide +kernel) rfl rfl ⟨(Nat.le_of_ble_eq_true rfl), (Nat.le_of_ble_eq_true rfl)⟩ (Nat.le_of_ble_eq_true rfl) (Nat.le_of_ble_eq_true rfl) rfl hl.1 rfl (Nat.le_of_ble_eq_true rfl) dX12_pump_4 ?_
  refine lv_if_ne (tgt := 12) hx hb dX12_pump_7 (by decide) (fun c1 => ?_) (fun c1 => ?_)
  · refine lv_iload_n hx hb dX12_pump_12 rfl (lv_at hl 2 rfl) ?_
    refine lv_i2l hx hb dX12_pump_13 rfl ?_
    refine lv_iload_n hx hb dX12_pump_14 rfl (lv_at hl 1 rfl) ?_
    refine lv_i2l hx hb dX12_pump_15 rfl ?_
    refine lv_ldc2 (v := 1000) hx hb hown (hts (.constantLong RX12 182 (1000)) (by decide +kernel)) dX12_pump_16 ?_
    refine pureIS (As := [.long (Int32.toInt64 v), .long (Int32.toInt64 what), .long 1000]) (rest := []) F (c_in l (Int32.toInt64 v) (Int32.toInt64 what) 1000) 3 gX12_pump_X12_in rfl (by decide +kernel) rfl rfl ⟨(Nat.le_of_ble_eq_true rfl), (Nat.le_of_ble_eq_true rfl)⟩ (Nat.le_of_ble_eq_true rfl) (Nat.le_of_ble_eq_true rfl) rfl hl.1 rfl (Nat.le_of_ble_eq_true rfl) dX12_pump_19 ?_
    refine lv_if_ne (tgt := 28) hx hb dX12_pump_22 (by decide) (fun c2 => ?_) (fun c2 => ?_)
    · refine lv_iload_n hx hb dX12_pump_28 rfl (lv_at hl 1 rfl) ?_
      refine lv_if_ne (tgt := 39) hx hb dX12_pump_29 (by decide) (fun c3 => ?_) (fun c3 => ?_)
      · refine lv_aload_n hx hb dX12_pump_39 rfl (lv_at hl 0 rfl) ?_
        refine va_get (D := g.1) (ci := 12) (v := .int 100) (C := RX12) (T := TX12) (N := 66) hx hb hts hi_X12_pump_X12 hown hK hP 0 rfl rfl 6 (by decide) (hts (.fieldLink RX12 129 "OilPushModel" "limit" "I") (by decide +kernel)) (fun _ h => h) rfl dX12_pump_40 ?_
        refine lv_istore_n (lv' := [(3, .int 100), (0, .ref h0), (1, .int what), (2, .int v)]) hx hb dX12_pump_43 rfl hl (by decide) rfl (fun ls hl => ?_)
        refine lv_aload_n hx hb dX12_pump_44 rfl (lv_at hl 1 rfl) ?_
        refine lv_iload_n hx hb dX12_pump_45 rfl (lv_at hl 2 rfl) ?_
        refine lv_if_ne (tgt := 53) hx hb dX12_pump_46 (by decide) (fun _ => ?_) (fun cc0 => absurd cc0 c3)
        refine lv_aload_n hx hb dX12_pump_53 rfl (lv_at hl 1 rfl) ?_
        refine va_get (D := g.1) (ci := 12) (v := .int 0) (C := RX12) (T := TX12) (N := 66) hx hb hts hi_X12_pump_X12 hown hK hP 0 rfl rfl 5 (by decide) (hts (.fieldLink RX12 184 "OilPushModel" "gives" "I") (by decide +kernel)) (fun _ h => h) rfl dX12_pump_54 ?_
        refine va_put (D := g.1) (ci := 12) (v := .int 0) (ty := .int) (C := RX12) (T := TX12) (N := 66) hx hb hts hi_X12_pump_X12 tyX12 tyX12_ok nmX12 hown hK hP hD hS 0 rfl rfl 5 (by decide) (hts (.fieldLink RX12 184 "OilPushModel" "gives" "I") (by decide +kernel)) (fun _ h => h) rfl (by decide +kernel) rfl rfl (Nat.le_of_ble_eq_true rfl) dX12_pump_57 (fun H locs hP hD hS => ?_)
        have hP : va_P g.1 vwCl [(h0, .inr (12, (mF q)))] H := hP
        have hD : va_D A [(h0, .inr (12, (mF q)))] := hD
        refine lv_aload_n hx hb dX12_pump_60 rfl (lv_at hl 1 rfl) ?_
        refine lv_iload_n hx hb dX12_pump_61 rfl (lv_at hl 2 rfl) ?_
        refine lv_iconst (v := 1) hx hb dX12_pump_62 (by decide) ?_
        refine lv_icmp_ne (tgt := 70) hx hb dX12_pump_63 (by decide) (fun c4 => ?_) (fun c4 => ?_)
        · refine lv_aload_n hx hb dX12_pump_70 rfl (lv_at hl 1 rfl) ?_
          refine va_get (D := g.1) (ci := 12) (v := .int 100) (C := RX12) (T := TX12) (N := 66) hx hb hts hi_X12_pump_X12 hown hK hP 0 rfl rfl 6 (by decide) (hts (.fieldLink RX12 129 "OilPushModel" "limit" "I") (by decide +kernel)) (fun _ h => h) rfl dX12_pump_71 ?_
          refine va_put (D := g.1) (ci := 12) (v := .int 100) (ty := .int) (C := RX12) (T := TX12) (N := 66) hx hb hts hi_X12_pump_X12 tyX12 tyX12_ok nmX12 hown hK hP hD hS 0 rfl rfl 6 (by decide) (hts (.fieldLink RX12 129 "OilPushModel" "limit" "I") (by decide +kernel)) (fun _ h => h) rfl (by decide +kernel) rfl rfl (Nat.le_of_ble_eq_true rfl) dX12_pump_74 (fun H locs hP hD hS => ?_)
          have hP : va_P g.1 vwCl [(h0, .inr (12, (mF q)))] H := hP
          have hD : va_D A [(h0, .inr (12, (mF q)))] := hD
          refine lv_iload_n hx hb dX12_pump_77 rfl (lv_at hl 0 rfl) ?_
          exact retI C hS () (by unfold r_m_pump; rw [if_neg c1, if_neg c2, if_neg c3, if_neg c4]) (hP.pick [] rfl) (hD.sub [] rfl rfl) (Nat.le_of_ble_eq_true rfl) (Nat.le_of_ble_eq_true rfl) dX12_pump_78
        refine lv_iload_n hx hb dX12_pump_66 rfl (lv_at hl 3 rfl) ?_
        refine lv_goto (tgt := 74) hx hb dX12_pump_67 (by decide) ?_
        refine va_put (D := g.1) (ci := 12) (v := .int v) (ty := .int) (C := RX12) (T := TX12) (N := 66) hx hb hts hi_X12_pump_X12 tyX12 tyX12_ok nmX12 hown hK hP hD hS 0 rfl rfl 6 (by decide) (hts (.fieldLink RX12 129 "OilPushModel" "limit" "I") (by decide +kernel)) (fun _ h => h) rfl (by decide +kernel) rfl rfl (Nat.le_of_ble_eq_true rfl) dX12_pump_74 (fun H locs hP hD hS => ?_)
        have hP : va_P g.1 vwCl [(h0, .inr (12, ((mF q).set 6 (.int v))))] H := hP
        have hD : va_D A [(h0, .inr (12, ((mF q).set 6 (.int v))))] := hD
        refine lv_iload_n hx hb dX12_pump_77 rfl (lv_at hl 0 rfl) ?_
        exact retI C hS () (by unfold r_m_pump; rw [if_neg c1, if_neg c2, if_neg c3, if_pos c4]) (hP.pick [] rfl) (hD.sub [] rfl rfl) (Nat.le_of_ble_eq_true rfl) (Nat.le_of_ble_eq_true rfl) dX12_pump_78
      refine lv_aload_n hx hb dX12_pump_32 rfl (lv_at hl 0 rfl) ?_
      refine va_get (D := g.1) (ci := 12) (v := .int 0) (C := RX12) (T := TX12) (N := 66) hx hb hts hi_X12_pump_X12 hown hK hP 0 rfl rfl 5 (by decide) (hts (.fieldLink RX12 184 "OilPushModel" "gives" "I") (by decide +kernel)) (fun _ h => h) rfl dX12_pump_33 ?_
      refine lv_goto (tgt := 43) hx hb dX12_pump_36 (by decide) ?_
      refine lv_istore_n (lv' := [(3, .int 0), (0, .ref h0), (1, .int what), (2, .int v)]) hx hb dX12_pump_43 rfl hl (by decide) rfl (fun ls hl => ?_)
      refine lv_aload_n hx hb dX12_pump_44 rfl (lv_at hl 1 rfl) ?_
      refine lv_iload_n hx hb dX12_pump_45 rfl (lv_at hl 2 rfl) ?_
      refine lv_if_ne (tgt := 53) hx hb dX12_pump_46 (by decide) (fun cc0 => absurd c3 cc0) (fun _ => ?_)
      refine lv_iload_n hx hb dX12_pump_49 rfl (lv_at hl 3 rfl) ?_
      refine lv_goto (tgt := 57) hx hb dX12_pump_50 (by decide) ?_
      refine va_put (D := g.1) (ci := 12) (v := .int v) (ty := .int) (C := RX12) (T := TX12) (N := 66) hx hb hts hi_X12_pump_X12 tyX12 tyX12_ok nmX12 hown hK hP hD hS 0 rfl rfl 5 (by decide) (hts (.fieldLink RX12 184 "OilPushModel" "gives" "I") (by decide +kernel)) (fun _ h => h) rfl (by decide +kernel) rfl rfl (Nat.le_of_ble_eq_true rfl) dX12_pump_57 (fun H locs hP hD hS => ?_)
      have hP : va_P g.1 vwCl [(h0, .inr (12, ((mF q).set 5 (.int v))))] H := hP
      have hD : va_D A [(h0, .inr (12, ((mF q).set 5 (.int v))))] := hD
      refine lv_aload_n hx hb dX12_pump_60 rfl (lv_at hl 1 rfl) ?_
      refine lv_iload_n hx hb dX12_pump_61 rfl (lv_at hl 2 rfl) ?_
      refine lv_iconst (v := 1) hx hb dX12_pump_62 (by decide) ?_
      refine lv_icmp_ne (tgt := 70) hx hb dX12_pump_63 (by decide) (fun c5 => ?_) (fun c5 => ?_)
      · refine lv_aload_n hx hb dX12_pump_70 rfl (lv_at hl 1 rfl) ?_
        refine va_get (D := g.1) (ci := 12) (v := .int 100) (C := RX12) (T := TX12) (N := 66) hx hb hts hi_X12_pump_X12 hown hK hP 0 rfl rfl 6 (by decide) (hts (.fieldLink RX12 129 "OilPushModel" "limit" "I") (by decide +kernel)) (fun _ h => h) rfl dX12_pump_71 ?_
        refine va_put (D := g.1) (ci := 12) (v := .int 100) (ty := .int) (C := RX12) (T := TX12) (N := 66) hx hb hts hi_X12_pump_X12 tyX12 tyX12_ok nmX12 hown hK hP hD hS 0 rfl rfl 6 (by decide) (hts (.fieldLink RX12 129 "OilPushModel" "limit" "I") (by decide +kernel)) (fun _ h => h) rfl (by decide +kernel) rfl rfl (Nat.le_of_ble_eq_true rfl) dX12_pump_74 (fun H locs hP hD hS => ?_)
        have hP : va_P g.1 vwCl [(h0, .inr (12, ((mF q).set 5 (.int v))))] H := hP
        have hD : va_D A [(h0, .inr (12, ((mF q).set 5 (.int v))))] := hD
        refine lv_iload_n hx hb dX12_pump_77 rfl (lv_at hl 0 rfl) ?_
        exact retI C hS () (by unfold r_m_pump; rw [if_neg c1, if_neg c2, if_pos c3, if_neg c5]) (hP.pick [] rfl) (hD.sub [] rfl rfl) (Nat.le_of_ble_eq_true rfl) (Nat.le_of_ble_eq_true rfl) dX12_pump_78
      refine lv_iload_n hx hb dX12_pump_66 rfl (lv_at hl 3 rfl) ?_
      refine lv_goto (tgt := 74) hx hb dX12_pump_67 (by decide) ?_
      refine va_put (D := g.1) (ci := 12) (v := .int v) (ty := .int) (C := RX12) (T := TX12) (N := 66) hx hb hts hi_X12_pump_X12 tyX12 tyX12_ok nmX12 hown hK hP hD hS 0 rfl rfl 6 (by decide) (hts (.fieldLink RX12 129 "OilPushModel" "limit" "I") (by decide +kernel)) (fun _ h => h) rfl (by decide +kernel) rfl rfl (Nat.le_of_ble_eq_true rfl) dX12_pump_74 (fun H locs hP hD hS => ?_)
      have hP : va_P g.1 vwCl [(h0, .inr (12, (((mF q).set 5 (.int v)).set 6 (.int v))))] H := hP
      have hD : va_D A [(h0, .inr (12, (((mF q).set 5 (.int v)).set 6 (.int v))))] := hD
      refine lv_iload_n hx hb dX12_pump_77 rfl (lv_at hl 0 rfl) ?_
      exact retI C hS () (by unfold r_m_pump; rw [if_neg c1, if_neg c2, if_pos c3, if_pos c5]) (hP.pick [] rfl) (hD.sub [] rfl rfl) (Nat.le_of_ble_eq_true rfl) (Nat.le_of_ble_eq_true rfl) dX12_pump_78
    refine lv_bipush (v := -2) hx hb dX12_pump_25 (by decide) ?_
    exact retI C hS () (by unfold r_m_pump; rw [if_neg c1, if_pos c2]) (hP.pick [] rfl) (hD.sub [] rfl rfl) (Nat.le_of_ble_eq_true rfl) (Nat.le_of_ble_eq_true rfl) dX12_pump_27
  refine lv_iconst (v := -1) hx hb dX12_pump_10 (by decide) ?_
  exact retI C hS () (by unfold r_m_pump; rw [if_pos c1]) (hP.pick [] rfl) (hD.sub [] rfl rfl) (Nat.le_of_ble_eq_true rfl) (Nat.le_of_ble_eq_true rfl) dX12_pump_11
theorem hi_X12_cylinder_X12 : ∀ w ∈ wsX120, w ∈ wsX12_cylinder := fun w h => List.mem_cons_of_mem _ (List.mem_append_right _ h)
def r_m_cylinder (kind : Int32) (area : Int32) (stroke : Int32) : Int32 := (if (r_c_in (Int32.toInt64 kind) 0 2) = 0 then (-2) else (if (r_c_in (Int32.toInt64 area) 1 100) = 0 then (-2) else (if (r_c_in (Int32.toInt64 stroke) 1 100) = 0 then (-2) else 0)))
set_option maxRecDepth 100000 in
set_option maxHeartbeats 4000000 in
theorem m_cylinder (l : Launch) (g : Gt) (h0 : Nat) (q : Nat → Nat) (kind : Int32) (area : Int32) (stroke : Int32)  : Ctr l g yX12_cylinder wsX12_cylinder ({ frames := 1, cells := 0, slots := 0, locals := 25 } : Room) [.ref h0, .int kind, .int area, .int stroke] [(h0, .inr (12, (mF q))), ((q 8), .inl (g.2 0, 6, .inl z0)), ((q 9), .inl (g.2 0, 6, .inl z0)), ((q 10), .inl (g.2 0, 6, .inl z0)), ((q 12), .inl (g.2 0, 6, .inl z0)), ((q 15), .inl (g.2 0, 6, .inl z0))] (fun A => QI g A (fun r (_ : Unit) => r = (r_m_cylinder kind area stroke)) (fun _u : Unit => [])) := by
  refine Ctr.of (cc := cX12_cylinder) (maxL := 4) (ret := (some .int)) (by decide) rfl (Nat.le_of_ble_eq_true rfl) ?_
  intro p e s m below meth c A ls H C hP hD hA hS hl
  obtain ⟨hx, hb, hr, hts, hown, hlocks, hml, hin, hKN⟩ := id C
  have hK := hKN.1
  have hN := hKN.2
  have F : CallFix p m c cX12_cylinder 4 s _ wsX12_cylinder yX12_cylinder.cls := ⟨hx, hb, hml, hown, hts⟩
  have hl : lv_has ls 4 [(0, .ref h0), (1, .int kind), (2, .int area), (3, .int stroke)] := hl
  refine lv_iload_n hx hb dX12_cylinder_0 rfl (lv_at hl 1 rfl) ?_
  refine lv_i2l hx hb dX12_cylinder_1 rfl ?_
  refine lv_lconst (v := 0) hx hb dX12_cylinder_2 (by decide) ?_
  refine lv_ldc2 (v := 2) hx hb hown (hts (.constantLong RX12 162 (2)) (by decide +kernel)) dX12_cylinder_3 ?_
  refine pureIS (As := [.long (Int32.toInt64 kind), .long 0, .long 2]) (rest := []) F (c_in l (Int32.toInt64 kind) 0 2) 3 gX12_cylinder_X12_in rfl (by decide +kernel) rfl rfl ⟨(Nat.le_of_ble_eq_true rfl), (Nat.le_of_ble_eq_true rfl)⟩ (Nat.le_of_ble_eq_true rfl) (Nat.le_of_ble_eq_true rfl) rfl hl.1 rfl (Nat.le_of_ble_eq_true rfl) dX12_cylinder_6 ?_
  refine lv_if_eq (tgt := 36) hx hb dX12_cylinder_9 (by decide) (fun c1 => ?_) (fun c1 => ?_)
  · refine lv_bipush (v := -2) hx hb dX12_cylinder_36 (by decide) ?_
    exact retI C hS () (by unfold r_m_cylinder; rw [if_pos c1]) (hP.pick [] rfl) (hD.sub [] rfl rfl) (Nat.le_of_ble_eq_true rfl) (Nat.le_of_ble_eq_true rfl) dX12_cylinder_38
  refine lv_iload_n hx hb dX12_cylinder_12 rfl (lv_at hl 2 rfl) ?_
  refine lv_i2l hx hb dX12_cylinder_13 rfl ?_
  refine lv_lconst (v := 1) hx hb dX12_cylinder_14 (by decide) ?_
  refine lv_ldc2 (v := 100) hx hb hown (hts (.constantLong RX12 187 (100)) (by decide +kernel)) dX12_cylinder_15 ?_
  refine pureIS (As := [.long (Int32.toInt64 area), .long 1, .long 100]) (rest := []) F (c_in l (Int32.toInt64 area) 1 100) 3 gX12_cylinder_X12_in rfl (by decide +kernel) rfl rfl ⟨(Nat.le_of_ble_eq_true rfl), (Nat.le_of_ble_eq_true rfl)⟩ (Nat.le_of_ble_eq_true rfl) (Nat.le_of_ble_eq_true rfl) rfl hl.1 rfl (Nat.le_of_ble_eq_true rfl) dX12_cylinder_18 ?_
  refine lv_if_eq (tgt := 36) hx hb dX12_cylinder_21 (by decide) (fun c2 => ?_) (fun c2 => ?_)
  · refine lv_bipush (v := -2) hx hb dX12_cylinder_36 (by decide) ?_
    exact retI C hS () (by unfold r_m_cylinder; rw [if_neg c1, if_pos c2]) (hP.pick [] rfl) (hD.sub [] rfl rfl) (Nat.le_of_ble_eq_true rfl) (Nat.le_of_ble_eq_true rfl) dX12_cylinder_38
  refine lv_iload_n hx hb dX12_cylinder_24 rfl (lv_at hl 3 rfl) ?_
  refine lv_i2l hx hb dX12_cylinder_25 rfl ?_
  refine lv_lconst (v := 1) hx hb dX12_cylinder_26 (by decide) ?_
  refine lv_ldc2 (v := 100) hx hb hown (hts (.constantLong RX12 187 (100)) (by decide +kernel)) dX12_cylinder_27 ?_
  refine pureIS (As := [.long (Int32.toInt64 stroke), .long 1, .long 100]) (rest := []) F (c_in l (Int32.toInt64 stroke) 1 100) 3 gX12_cylinder_X12_in rfl (by decide +kernel) rfl rfl ⟨(Nat.le_of_ble_eq_true rfl), (Nat.le_of_ble_eq_true rfl)⟩ (Nat.le_of_ble_eq_true rfl) (Nat.le_of_ble_eq_true rfl) rfl hl.1 rfl (Nat.le_of_ble_eq_true rfl) dX12_cylinder_30 ?_
  refine lv_if_ne (tgt := 39) hx hb dX12_cylinder_33 (by decide) (fun c3 => ?_) (fun c3 => ?_)
  · refine lv_aload_n hx hb dX12_cylinder_39 rfl (lv_at hl 0 rfl) ?_
    refine va_get (D := g.1) (ci := 12) (v := .int 0) (C := RX12) (T := TX12) (N := 66) hx hb hts hi_X12_cylinder_X12 hown hK hP 0 rfl rfl 7 (by decide) (hts (.fieldLink RX12 179 "OilPushModel" "cylinders" "I") (by decide +kernel)) (fun _ h => h) rfl dX12_cylinder_40 ?_
    refine lv_bipush (v := 6) hx hb dX12_cylinder_43 (by decide) ?_
    refine lv_icmp_ne (tgt := 51) hx hb dX12_cylinder_45 (by decide) (fun _ => ?_) (fun cc0 => absurd cc0 (by decide))
    refine lv_aload_n hx hb dX12_cylinder_51 rfl (lv_at hl 0 rfl) ?_
    refine va_get (D := g.1) (ci := 12) (v := .ref (q 8)) (C := RX12) (T := TX12) (N := 66) hx hb hts hi_X12_cylinder_X12 hown hK hP 0 rfl rfl 8 (by decide) (hts (.fieldLink RX12 22 "OilPushModel" "kind" "[I") (by decide +kernel)) (fun _ h => h) rfl dX12_cylinder_52 ?_
    refine lv_aload_n hx hb dX12_cylinder_55 rfl (lv_at hl 0 rfl) ?_
    refine va_get (D := g.1) (ci := 12) (v := .int 0) (C := RX12) (T := TX12) (N := 66) hx hb hts hi_X12_cylinder_X12 hown hK hP 0 rfl rfl 7 (by decide) (hts (.fieldLink RX12 179 "OilPushModel" "cylinders" "I") (by decide +kernel)) (fun _ h => h) rfl dX12_cylinder_56 ?_
    refine lv_iload_n hx hb dX12_cylinder_59 rfl (lv_at hl 1 rfl) ?_
    refine va_iast hx hb hK hP hD hS 1 0 rfl rfl (by unfold vp_in; decide +kernel) dX12_cylinder_60 (fun H locs hP hD hS => ?_)
    have hP : va_P g.1 vwCl [(h0, .inr (12, (mF q))), ((q 8), .inl (g.2 0, 6, .inl (upd z0 0 kind))), ((q 9), .inl (g.2 0, 6, .inl z0)), ((q 10), .inl (g.2 0, 6, .inl z0)), ((q 12), .inl (g.2 0, 6, .inl z0)), ((q 15), .inl (g.2 0, 6, .inl z0))] H := hP
    have hD : va_D A [(h0, .inr (12, (mF q))), ((q 8), .inl (g.2 0, 6, .inl (upd z0 0 kind))), ((q 9), .inl (g.2 0, 6, .inl z0)), ((q 10), .inl (g.2 0, 6, .inl z0)), ((q 12), .inl (g.2 0, 6, .inl z0)), ((q 15), .inl (g.2 0, 6, .inl z0))] := hD
    refine lv_aload_n hx hb dX12_cylinder_61 rfl (lv_at hl 0 rfl) ?_
    refine va_get (D := g.1) (ci := 12) (v := .ref (q 9)) (C := RX12) (T := TX12) (N := 66) hx hb hts hi_X12_cylinder_X12 hown hK hP 0 rfl rfl 9 (by decide) (hts (.fieldLink RX12 25 "OilPushModel" "area" "[I") (by decide +kernel)) (fun _ h => h) rfl dX12_cylinder_62 ?_
    refine lv_aload_n hx hb dX12_cylinder_65 rfl (lv_at hl 0 rfl) ?_
    refine va_get (D := g.1) (ci := 12) (v := .int 0) (C := RX12) (T := TX12) (N := 66) hx hb hts hi_X12_cylinder_X12 hown hK hP 0 rfl rfl 7 (by decide) (hts (.fieldLink RX12 179 "OilPushModel" "cylinders" "I") (by decide +kernel)) (fun _ h => h) rfl dX12_cylinder_66 ?_
    refine lv_iload_n hx hb dX12_cylinder_69 rfl (lv_at hl 2 rfl) ?_
    refine va_iast hx hb hK hP hD hS 2 0 rfl rfl (by unfold vp_in; decide +kernel) dX12_cylinder_70 (fun H locs hP hD hS => ?_)
    have hP : va_P g.1 vwCl [(h0, .inr (12, (mF q))), ((q 8), .inl (g.2 0, 6, .inl (upd z0 0 kind))), ((q 9), .inl (g.2 0, 6, .inl (upd z0 0 area))), ((q 10), .inl (g.2 0, 6, .inl z0)), ((q 12), .inl (g.2 0, 6, .inl z0)), ((q 15), .inl (g.2 0, 6, .inl z0))] H := hP
    have hD : va_D A [(h0, .inr (12, (mF q))), ((q 8), .inl (g.2 0, 6, .inl (upd z0 0 kind))), ((q 9), .inl (g.2 0, 6, .inl (upd z0 0 area))), ((q 10), .inl (g.2 0, 6, .inl z0)), ((q 12), .inl (g.2 0, 6, .inl z0)), ((q 15), .inl (g.2 0, 6, .inl z0))] := hD
    refine lv_aload_n hx hb dX12_cylinder_71 rfl (lv_at hl 0 rfl) ?_
    refine va_get (D := g.1) (ci := 12) (v := .ref (q 10)) (C := RX12) (T := TX12) (N := 66) hx hb hts hi_X12_cylinder_X12 hown hK hP 0 rfl rfl 10 (by decide) (hts (.fieldLink RX12 28 "OilPushModel" "stroke" "[I") (by decide +kernel)) (fun _ h => h) rfl dX12_cylinder_72 ?_
    refine lv_aload_n hx hb dX12_cylinder_75 rfl (lv_at hl 0 rfl) ?_
    refine va_get (D := g.1) (ci := 12) (v := .int 0) (C := RX12) (T := TX12) (N := 66) hx hb hts hi_X12_cylinder_X12 hown hK hP 0 rfl rfl 7 (by decide) (hts (.fieldLink RX12 179 "OilPushModel" "cylinders" "I") (by decide +kernel)) (fun _ h => h) rfl dX12_cylinder_76 ?_
    refine lv_iload_n hx hb dX12_cylinder_79 rfl (lv_at hl 3 rfl) ?_
    refine va_iast hx hb hK hP hD hS 3 0 rfl rfl (by unfold vp_in; decide +kernel) dX12_cylinder_80 (fun H locs hP hD hS => ?_)
    have hP : va_P g.1 vwCl [(h0, .inr (12, (mF q))), ((q 8), .inl (g.2 0, 6, .inl (upd z0 0 kind))), ((q 9), .inl (g.2 0, 6, .inl (upd z0 0 area))), ((q 10), .inl (g.2 0, 6, .inl (upd z0 0 stroke))), ((q 12), .inl (g.2 0, 6, .inl z0)), ((q 15), .inl (g.2 0, 6, .inl z0))] H := hP
    have hD : va_D A [(h0, .inr (12, (mF q))), ((q 8), .inl (g.2 0, 6, .inl (upd z0 0 kind))), ((q 9), .inl (g.2 0, 6, .inl (upd z0 0 area))), ((q 10), .inl (g.2 0, 6, .inl (upd z0 0 stroke))), ((q 12), .inl (g.2 0, 6, .inl z0)), ((q 15), .inl (g.2 0, 6, .inl z0))] := hD
    refine lv_aload_n hx hb dX12_cylinder_81 rfl (lv_at hl 0 rfl) ?_
    refine va_get (D := g.1) (ci := 12) (v := .ref (q 12)) (C := RX12) (T := TX12) (N := 66) hx hb hts hi_X12_cylinder_X12 hown hK hP 0 rfl rfl 12 (by decide) (hts (.fieldLink RX12 34 "OilPushModel" "loadMany" "[I") (by decide +kernel)) (fun _ h => h) rfl dX12_cylinder_82 ?_
    refine lv_aload_n hx hb dX12_cylinder_85 rfl (lv_at hl 0 rfl) ?_
    refine va_get (D := g.1) (ci := 12) (v := .int 0) (C := RX12) (T := TX12) (N := 66) hx hb hts hi_X12_cylinder_X12 hown hK hP 0 rfl rfl 7 (by decide) (hts (.fieldLink RX12 179 "OilPushModel" "cylinders" "I") (by decide +kernel)) (fun _ h => h) rfl dX12_cylinder_86 ?_
    refine lv_iconst (v := 1) hx hb dX12_cylinder_89 (by decide) ?_
    refine va_iast hx hb hK hP hD hS 4 0 rfl rfl (by unfold vp_in; decide +kernel) dX12_cylinder_90 (fun H locs hP hD hS => ?_)
    have hP : va_P g.1 vwCl [(h0, .inr (12, (mF q))), ((q 8), .inl (g.2 0, 6, .inl (upd z0 0 kind))), ((q 9), .inl (g.2 0, 6, .inl (upd z0 0 area))), ((q 10), .inl (g.2 0, 6, .inl (upd z0 0 stroke))), ((q 12), .inl (g.2 0, 6, .inl (upd z0 0 1))), ((q 15), .inl (g.2 0, 6, .inl z0))] H := hP
    have hD : va_D A [(h0, .inr (12, (mF q))), ((q 8), .inl (g.2 0, 6, .inl (upd z0 0 kind))), ((q 9), .inl (g.2 0, 6, .inl (upd z0 0 area))), ((q 10), .inl (g.2 0, 6, .inl (upd z0 0 stroke))), ((q 12), .inl (g.2 0, 6, .inl (upd z0 0 1))), ((q 15), .inl (g.2 0, 6, .inl z0))] := hD
    refine lv_aload_n hx hb dX12_cylinder_91 rfl (lv_at hl 0 rfl) ?_
    refine va_get (D := g.1) (ci := 12) (v := .ref (q 15)) (C := RX12) (T := TX12) (N := 66) hx hb hts hi_X12_cylinder_X12 hown hK hP 0 rfl rfl 15 (by decide) (hts (.fieldLink RX12 43 "OilPushModel" "flow" "[I") (by decide +kernel)) (fun _ h => h) rfl dX12_cylinder_92 ?_
    refine lv_aload_n hx hb dX12_cylinder_95 rfl (lv_at hl 0 rfl) ?_
    refine va_get (D := g.1) (ci := 12) (v := .int 0) (C := RX12) (T := TX12) (N := 66) hx hb hts hi_X12_cylinder_X12 hown hK hP 0 rfl rfl 7 (by decide) (hts (.fieldLink RX12 179 "OilPushModel" "cylinders" "I") (by decide +kernel)) (fun _ h => h) rfl dX12_cylinder_96 ?_
    refine lv_sipush (v := 1000) hx hb dX12_cylinder_99 (by decide) ?_
    refine va_iast hx hb hK hP hD hS 5 0 rfl rfl (by unfold vp_in; decide +kernel) dX12_cylinder_102 (fun H locs hP hD hS => ?_)
    have hP : va_P g.1 vwCl [(h0, .inr (12, (mF q))), ((q 8), .inl (g.2 0, 6, .inl (upd z0 0 kind))), ((q 9), .inl (g.2 0, 6, .inl (upd z0 0 area))), ((q 10), .inl (g.2 0, 6, .inl (upd z0 0 stroke))), ((q 12), .inl (g.2 0, 6, .inl (upd z0 0 1))), ((q 15), .inl (g.2 0, 6, .inl (upd z0 0 1000)))] H := hP
    have hD : va_D A [(h0, .inr (12, (mF q))), ((q 8), .inl (g.2 0, 6, .inl (upd z0 0 kind))), ((q 9), .inl (g.2 0, 6, .inl (upd z0 0 area))), ((q 10), .inl (g.2 0, 6, .inl (upd z0 0 stroke))), ((q 12), .inl (g.2 0, 6, .inl (upd z0 0 1))), ((q 15), .inl (g.2 0, 6, .inl (upd z0 0 1000)))] := hD
    refine lv_aload_n hx hb dX12_cylinder_103 rfl (lv_at hl 0 rfl) ?_
    refine lv_dup hx hb dX12_cylinder_104 rfl ?_
    refine va_get (D := g.1) (ci := 12) (v := .int 0) (C := RX12) (T := TX12) (N := 66) hx hb hts hi_X12_cylinder_X12 hown hK hP 0 rfl rfl 7 (by decide) (hts (.fieldLink RX12 179 "OilPushModel" "cylinders" "I") (by decide +kernel)) (fun _ h => h) rfl dX12_cylinder_105 ?_
    refine lv_iconst (v := 1) hx hb dX12_cylinder_108 (by decide) ?_
    refine lv_iadd hx hb dX12_cylinder_109 ?_
    refine nx_i (v := 1) (by decide) ?_
    refine va_put (D := g.1) (ci := 12) (v := .int 1) (ty := .int) (C := RX12) (T := TX12) (N := 66) hx hb hts hi_X12_cylinder_X12 tyX12 tyX12_ok nmX12 hown hK hP hD hS 0 rfl rfl 7 (by decide) (hts (.fieldLink RX12 179 "OilPushModel" "cylinders" "I") (by decide +kernel)) (fun _ h => h) rfl (by decide +kernel) rfl rfl (Nat.le_of_ble_eq_true rfl) dX12_cylinder_110 (fun H locs hP hD hS => ?_)
    have hP : va_P g.1 vwCl [(h0, .inr (12, ((mF q).set 7 (.int 1)))), ((q 8), .inl (g.2 0, 6, .inl (upd z0 0 kind))), ((q 9), .inl (g.2 0, 6, .inl (upd z0 0 area))), ((q 10), .inl (g.2 0, 6, .inl (upd z0 0 stroke))), ((q 12), .inl (g.2 0, 6, .inl (upd z0 0 1))), ((q 15), .inl (g.2 0, 6, .inl (upd z0 0 1000)))] H := hP
    have hD : va_D A [(h0, .inr (12, ((mF q).set 7 (.int 1)))), ((q 8), .inl (g.2 0, 6, .inl (upd z0 0 kind))), ((q 9), .inl (g.2 0, 6, .inl (upd z0 0 area))), ((q 10), .inl (g.2 0, 6, .inl (upd z0 0 stroke))), ((q 12), .inl (g.2 0, 6, .inl (upd z0 0 1))), ((q 15), .inl (g.2 0, 6, .inl (upd z0 0 1000)))] := hD
    refine lv_aload_n hx hb dX12_cylinder_113 rfl (lv_at hl 0 rfl) ?_
    refine va_get (D := g.1) (ci := 12) (v := .int 1) (C := RX12) (T := TX12) (N := 66) hx hb hts hi_X12_cylinder_X12 hown hK hP 0 rfl rfl 7 (by decide) (hts (.fieldLink RX12 179 "OilPushModel" "cylinders" "I") (by decide +kernel)) (fun _ h => h) rfl dX12_cylinder_114 ?_
    refine lv_iconst (v := 1) hx hb dX12_cylinder_117 (by decide) ?_
    refine lv_isub hx hb dX12_cylinder_118 ?_
    refine nx_i (v := 0) (by decide) ?_
    exact retI C hS () (by unfold r_m_cylinder; rw [if_neg c1, if_neg c2, if_neg c3]) (hP.pick [] rfl) (hD.sub [] rfl rfl) (Nat.le_of_ble_eq_true rfl) (Nat.le_of_ble_eq_true rfl) dX12_cylinder_119
  refine lv_bipush (v := -2) hx hb dX12_cylinder_36 (by decide) ?_
  exact retI C hS () (by unfold r_m_cylinder; rw [if_neg c1, if_neg c2, if_pos c3]) (hP.pick [] rfl) (hD.sub [] rfl rfl) (Nat.le_of_ble_eq_true rfl) (Nat.le_of_ble_eq_true rfl) dX12_cylinder_38
set_option maxRecDepth 100000 in
set_option maxHeartbeats 4000000 in
theorem m_rule (l : Launch) (g : Gt) (h0 : Nat) (q : Nat → Nat) (x1 : Int32) (x2 : Int32) (x3 : Int32)  : Ctr l g yX12_rule wsX12_rule ({ frames := 2, cells := 0, slots := 0, locals := 46 } : Room) [.ref h0, .int x1, .int x2, .int x3] [(h0, .inr (12, (mF q)))] (fun A => QI g A (fun r (_ : Unit) => r = (-1)) (fun _u : Unit => [])) := by
  refine Ctr.of (cc := cX12_rule) (maxL := 5) (ret := (some .int)) (by decide) rfl (Nat.le_of_ble_eq_true rfl) ?_
  intro p e s m below meth c A ls H C hP hD hA hS hl
  obtain ⟨hx, hb, hr, hts, hown, hlocks, hml, hin, hKN⟩ := id C
  have hK := hKN.1
  have hN := hKN.2
  have F : CallFix p m c cX12_rule 5 s _ wsX12_rule yX12_rule.cls := ⟨hx, hb, hml, hown, hts⟩
  have hl : lv_has ls 5 [(0, .ref h0), (1, .int x1), (2, .int x2), (3, .int x3)] := hl
  refine lv_aload_n hx hb dX12_rule_0 rfl (lv_at hl 0 rfl) ?_
  refine lv_iload_n hx hb dX12_rule_1 rfl (lv_at hl 1 rfl) ?_
  refine callIV (As := [.int x1]) (rest := []) (wr := []) (Cn := RX12) C (m_noCylinder l g h0 q x1) 1 gX12_rule_X12_noCylinder rfl (by decide +kernel) ⟨(Nat.le_of_ble_eq_true rfl), (Nat.le_of_ble_eq_true rfl)⟩ [0] [] hP hD hA hS rfl rfl rfl rfl (by decide) (k := 0) (ci := 12) rfl rfl rfl rfl hl.1 rfl (Nat.le_of_ble_eq_true rfl) dX12_rule_2 ⟨(Nat.le_of_ble_eq_true rfl), (Nat.le_of_ble_eq_true rfl)⟩ (fun r _u H locs hw hP hD hS => ?_)
  have hP : va_P g.1 vwCl [(h0, .inr (12, (mF q)))] H := hP
  have hD : va_D A [(h0, .inr (12, (mF q)))] := hD
  subst hw
  refine lv_if_ne (tgt := 20) hx hb dX12_rule_5 (by decide) (fun _ => ?_) (fun cc0 => absurd cc0 (by decide))
  refine lv_iconst (v := -1) hx hb dX12_rule_20 (by decide) ?_
  exact retI C hS () rfl (hP.pick [] rfl) (hD.sub [] rfl rfl) (Nat.le_of_ble_eq_true rfl) (Nat.le_of_ble_eq_true rfl) dX12_rule_21
set_option maxRecDepth 100000 in
set_option maxHeartbeats 4000000 in
theorem m_valve (l : Launch) (g : Gt) (h0 : Nat) (q : Nat → Nat) (x1 : Int32) (x2 : Int32)  : Ctr l g yX12_valve wsX12_valve ({ frames := 2, cells := 0, slots := 0, locals := 46 } : Room) [.ref h0, .int x1, .int x2] [(h0, .inr (12, (mF q)))] (fun A => QI g A (fun r (_ : Unit) => r = (-1)) (fun _u : Unit => [])) := by
  refine Ctr.of (cc := cX12_valve) (maxL := 4) (ret := (some .int)) (by decide) rfl (Nat.le_of_ble_eq_true rfl) ?_
  intro p e s m below meth c A ls H C hP hD hA hS hl
  obtain ⟨hx, hb, hr, hts, hown, hlocks, hml, hin, hKN⟩ := id C
  have hK := hKN.1
  have hN := hKN.2
  have F : CallFix p m c cX12_valve 4 s _ wsX12_valve yX12_valve.cls := ⟨hx, hb, hml, hown, hts⟩
  have hl : lv_has ls 4 [(0, .ref h0), (1, .int x1), (2, .int x2)] := hl
  refine lv_aload_n hx hb dX12_valve_0 rfl (lv_at hl 0 rfl) ?_
  refine lv_iload_n hx hb dX12_valve_1 rfl (lv_at hl 1 rfl) ?_
  refine callIV (As := [.int x1]) (rest := []) (wr := []) (Cn := RX12) C (m_noCylinder l g h0 q x1) 1 gX12_valve_X12_noCylinder rfl (by decide +kernel) ⟨(Nat.le_of_ble_eq_true rfl), (Nat.le_of_ble_eq_true rfl)⟩ [0] [] hP hD hA hS rfl rfl rfl rfl (by decide) (k := 0) (ci := 12) rfl rfl rfl rfl hl.1 rfl (Nat.le_of_ble_eq_true rfl) dX12_valve_2 ⟨(Nat.le_of_ble_eq_true rfl), (Nat.le_of_ble_eq_true rfl)⟩ (fun r _u H locs hw hP hD hS => ?_)
  have hP : va_P g.1 vwCl [(h0, .inr (12, (mF q)))] H := hP
  have hD : va_D A [(h0, .inr (12, (mF q)))] := hD
  subst hw
  refine lv_if_eq (tgt := 10) hx hb dX12_valve_5 (by decide) (fun cc0 => absurd cc0 (by decide)) (fun _ => ?_)
  refine lv_iconst (v := -1) hx hb dX12_valve_8 (by decide) ?_
  exact retI C hS () rfl (hP.pick [] rfl) (hD.sub [] rfl rfl) (Nat.le_of_ble_eq_true rfl) (Nat.le_of_ble_eq_true rfl) dX12_valve_9
set_option maxRecDepth 100000 in
set_option maxHeartbeats 4000000 in
theorem m_fill (l : Launch) (g : Gt) (h0 : Nat) (q : Nat → Nat) (x1 : Int32) (x2 : Int32)  : Ctr l g yX12_fill wsX12_fill ({ frames := 2, cells := 0, slots := 0, locals := 46 } : Room) [.ref h0, .int x1, .int x2] [(h0, .inr (12, (mF q)))] (fun A => QI g A (fun r (_ : Unit) => r = (-1)) (fun _u : Unit => [])) := by
  refine Ctr.of (cc := cX12_fill) (maxL := 4) (ret := (some .int)) (by decide) rfl (Nat.le_of_ble_eq_true rfl) ?_
  intro p e s m below meth c A ls H C hP hD hA hS hl
  obtain ⟨hx, hb, hr, hts, hown, hlocks, hml, hin, hKN⟩ := id C
  have hK := hKN.1
  have hN := hKN.2
  have F : CallFix p m c cX12_fill 4 s _ wsX12_fill yX12_fill.cls := ⟨hx, hb, hml, hown, hts⟩
  have hl : lv_has ls 4 [(0, .ref h0), (1, .int x1), (2, .int x2)] := hl
  refine lv_aload_n hx hb dX12_fill_0 rfl (lv_at hl 0 rfl) ?_
  refine lv_iload_n hx hb dX12_fill_1 rfl (lv_at hl 1 rfl) ?_
  refine callIV (As := [.int x1]) (rest := []) (wr := []) (Cn := RX12) C (m_noCylinder l g h0 q x1) 1 gX12_fill_X12_noCylinder rfl (by decide +kernel) ⟨(Nat.le_of_ble_eq_true rfl), (Nat.le_of_ble_eq_true rfl)⟩ [0] [] hP hD hA hS rfl rfl rfl rfl (by decide) (k := 0) (ci := 12) rfl rfl rfl rfl hl.1 rfl (Nat.le_of_ble_eq_true rfl) dX12_fill_2 ⟨(Nat.le_of_ble_eq_true rfl), (Nat.le_of_ble_eq_true rfl)⟩ (fun r _u H locs hw hP hD hS => ?_)
  have hP : va_P g.1 vwCl [(h0, .inr (12, (mF q)))] H := hP
  have hD : va_D A [(h0, .inr (12, (mF q)))] := hD
  subst hw
  refine lv_if_eq (tgt := 10) hx hb dX12_fill_5 (by decide) (fun cc0 => absurd cc0 (by decide)) (fun _ => ?_)
  refine lv_iconst (v := -1) hx hb dX12_fill_8 (by decide) ?_
  exact retI C hS () rfl (hP.pick [] rfl) (hD.sub [] rfl rfl) (Nat.le_of_ble_eq_true rfl) (Nat.le_of_ble_eq_true rfl) dX12_fill_9
set_option maxRecDepth 100000 in
set_option maxHeartbeats 4000000 in
theorem m_burst (l : Launch) (g : Gt) (h0 : Nat) (q : Nat → Nat) (x1 : Int32) (x2 : Int32)  : Ctr l g yX12_burst wsX12_burst ({ frames := 2, cells := 0, slots := 0, locals := 46 } : Room) [.ref h0, .int x1, .int x2] [(h0, .inr (12, (mF q)))] (fun A => QI g A (fun r (_ : Unit) => r = (-1)) (fun _u : Unit => [])) := by
  refine Ctr.of (cc := cX12_burst) (maxL := 4) (ret := (some .int)) (by decide) rfl (Nat.le_of_ble_eq_true rfl) ?_
  intro p e s m below meth c A ls H C hP hD hA hS hl
  obtain ⟨hx, hb, hr, hts, hown, hlocks, hml, hin, hKN⟩ := id C
  have hK := hKN.1
  have hN := hKN.2
  have F : CallFix p m c cX12_burst 4 s _ wsX12_burst yX12_burst.cls := ⟨hx, hb, hml, hown, hts⟩
  have hl : lv_has ls 4 [(0, .ref h0), (1, .int x1), (2, .int x2)] := hl
  refine lv_aload_n hx hb dX12_burst_0 rfl (lv_at hl 0 rfl) ?_
  refine lv_iload_n hx hb dX12_burst_1 rfl (lv_at hl 1 rfl) ?_
  refine callIV (As := [.int x1]) (rest := []) (wr := []) (Cn := RX12) C (m_noCylinder l g h0 q x1) 1 gX12_burst_X12_noCylinder rfl (by decide +kernel) ⟨(Nat.le_of_ble_eq_true rfl), (Nat.le_of_ble_eq_true rfl)⟩ [0] [] hP hD hA hS rfl rfl rfl rfl (by decide) (k := 0) (ci := 12) rfl rfl rfl rfl hl.1 rfl (Nat.le_of_ble_eq_true rfl) dX12_burst_2 ⟨(Nat.le_of_ble_eq_true rfl), (Nat.le_of_ble_eq_true rfl)⟩ (fun r _u H locs hw hP hD hS => ?_)
  have hP : va_P g.1 vwCl [(h0, .inr (12, (mF q)))] H := hP
  have hD : va_D A [(h0, .inr (12, (mF q)))] := hD
  subst hw
  refine lv_if_eq (tgt := 10) hx hb dX12_burst_5 (by decide) (fun cc0 => absurd cc0 (by decide)) (fun _ => ?_)
  refine lv_iconst (v := -1) hx hb dX12_burst_8 (by decide) ?_
  exact retI C hS () rfl (hP.pick [] rfl) (hD.sub [] rfl rfl) (Nat.le_of_ble_eq_true rfl) (Nat.le_of_ble_eq_true rfl) dX12_burst_9
set_option maxRecDepth 100000 in
set_option maxHeartbeats 4000000 in
theorem m_about (l : Launch) (g : Gt) (h0 : Nat) (q : Nat → Nat) (x1 : Int32) (x2 : Int32)  : Ctr l g yX12_about wsX12_about ({ frames := 2, cells := 0, slots := 0, locals := 46 } : Room) [.ref h0, .int x1, .int x2] [(h0, .inr (12, (mF q)))] (fun A => QI g A (fun r (_ : Unit) => r = (-1)) (fun _u : Unit => [])) := by
  refine Ctr.of (cc := cX12_about) (maxL := 3) (ret := (some .int)) (by decide) rfl (Nat.le_of_ble_eq_true rfl) ?_
  intro p e s m below meth c A ls H C hP hD hA hS hl
  obtain ⟨hx, hb, hr, hts, hown, hlocks, hml, hin, hKN⟩ := id C
  have hK := hKN.1
  have hN := hKN.2
  have F : CallFix p m c cX12_about 3 s _ wsX12_about yX12_about.cls := ⟨hx, hb, hml, hown, hts⟩
  have hl : lv_has ls 3 [(0, .ref h0), (1, .int x1), (2, .int x2)] := hl
  refine lv_aload_n hx hb dX12_about_0 rfl (lv_at hl 0 rfl) ?_
  refine lv_iload_n hx hb dX12_about_1 rfl (lv_at hl 1 rfl) ?_
  refine callIV (As := [.int x1]) (rest := []) (wr := []) (Cn := RX12) C (m_noCylinder l g h0 q x1) 1 gX12_about_X12_noCylinder rfl (by decide +kernel) ⟨(Nat.le_of_ble_eq_true rfl), (Nat.le_of_ble_eq_true rfl)⟩ [0] [] hP hD hA hS rfl rfl rfl rfl (by decide) (k := 0) (ci := 12) rfl rfl rfl rfl hl.1 rfl (Nat.le_of_ble_eq_true rfl) dX12_about_2 ⟨(Nat.le_of_ble_eq_true rfl), (Nat.le_of_ble_eq_true rfl)⟩ (fun r _u H locs hw hP hD hS => ?_)
  have hP : va_P g.1 vwCl [(h0, .inr (12, (mF q)))] H := hP
  have hD : va_D A [(h0, .inr (12, (mF q)))] := hD
  subst hw
  refine lv_if_eq (tgt := 10) hx hb dX12_about_5 (by decide) (fun cc0 => absurd cc0 (by decide)) (fun _ => ?_)
  refine lv_iconst (v := -1) hx hb dX12_about_8 (by decide) ?_
  exact retI C hS () rfl (hP.pick [] rfl) (hD.sub [] rfl rfl) (Nat.le_of_ble_eq_true rfl) (Nat.le_of_ble_eq_true rfl) dX12_about_9
set_option maxRecDepth 100000 in
set_option maxHeartbeats 4000000 in
theorem m_order (l : Launch) (g : Gt) (h0 : Nat) (q : Nat → Nat) (x1 : Int32) (x2 : Int32) (x3 : Int32) (x4 : Int32)  : Ctr l g yX12_order wsX12_order ({ frames := 2, cells := 0, slots := 0, locals := 46 } : Room) [.ref h0, .int x1, .int x2, .int x3, .int x4] [(h0, .inr (12, (mF q)))] (fun A => QI g A (fun r (_ : Unit) => r = (-1)) (fun _u : Unit => [])) := by
  refine Ctr.of (cc := cX12_order) (maxL := 5) (ret := (some .int)) (by decide) rfl (Nat.le_of_ble_eq_true rfl) ?_
  intro p e s m below meth c A ls H C hP hD hA hS hl
  obtain ⟨hx, hb, hr, hts, hown, hlocks, hml, hin, hKN⟩ := id C
  have hK := hKN.1
  have hN := hKN.2
  have F : CallFix p m c cX12_order 5 s _ wsX12_order yX12_order.cls := ⟨hx, hb, hml, hown, hts⟩
  have hl : lv_has ls 5 [(0, .ref h0), (1, .int x1), (2, .int x2), (3, .int x3), (4, .int x4)] := hl
  refine lv_aload_n hx hb dX12_order_0 rfl (lv_at hl 0 rfl) ?_
  refine lv_iload_n hx hb dX12_order_1 rfl (lv_at hl 1 rfl) ?_
  refine callIV (As := [.int x1]) (rest := []) (wr := []) (Cn := RX12) C (m_noCylinder l g h0 q x1) 1 gX12_order_X12_noCylinder rfl (by decide +kernel) ⟨(Nat.le_of_ble_eq_true rfl), (Nat.le_of_ble_eq_true rfl)⟩ [0] [] hP hD hA hS rfl rfl rfl rfl (by decide) (k := 0) (ci := 12) rfl rfl rfl rfl hl.1 rfl (Nat.le_of_ble_eq_true rfl) dX12_order_2 ⟨(Nat.le_of_ble_eq_true rfl), (Nat.le_of_ble_eq_true rfl)⟩ (fun r _u H locs hw hP hD hS => ?_)
  have hP : va_P g.1 vwCl [(h0, .inr (12, (mF q)))] H := hP
  have hD : va_D A [(h0, .inr (12, (mF q)))] := hD
  subst hw
  refine lv_if_ne (tgt := 16) hx hb dX12_order_5 (by decide) (fun _ => ?_) (fun cc0 => absurd cc0 (by decide))
  refine lv_iconst (v := -1) hx hb dX12_order_16 (by decide) ?_
  exact retI C hS () rfl (hP.pick [] rfl) (hD.sub [] rfl rfl) (Nat.le_of_ble_eq_true rfl) (Nat.le_of_ble_eq_true rfl) dX12_order_17
set_option maxRecDepth 100000 in
set_option maxHeartbeats 4000000 in
theorem m_reading (l : Launch) (g : Gt) (h0 : Nat) (q : Nat → Nat) (x1 : Int32) (x2 : Int32) (x3 : Int32)  : Ctr l g yX12_reading wsX12_reading ({ frames := 2, cells := 0, slots := 0, locals := 46 } : Room) [.ref h0, .int x1, .int x2, .int x3] [(h0, .inr (12, (mF q)))] (fun A => QI g A (fun r (_ : Unit) => r = (-1)) (fun _u : Unit => [])) := by
  refine Ctr.of (cc := cX12_reading) (maxL := 4) (ret := (some .int)) (by decide) rfl (Nat.le_of_ble_eq_true rfl) ?_
  intro p e s m below meth c A ls H C hP hD hA hS hl
  obtain ⟨hx, hb, hr, hts, hown, hlocks, hml, hin, hKN⟩ := id C
  have hK := hKN.1
  have hN := hKN.2
  have F : CallFix p m c cX12_reading 4 s _ wsX12_reading yX12_reading.cls := ⟨hx, hb, hml, hown, hts⟩
  have hl : lv_has ls 4 [(0, .ref h0), (1, .int x1), (2, .int x2), (3, .int x3)] := hl
  refine lv_aload_n hx hb dX12_reading_0 rfl (lv_at hl 0 rfl) ?_
  refine lv_iload_n hx hb dX12_reading_1 rfl (lv_at hl 2 rfl) ?_
  refine callIV (As := [.int x2]) (rest := []) (wr := []) (Cn := RX12) C (m_noCylinder l g h0 q x2) 1 gX12_reading_X12_noCylinder rfl (by decide +kernel) ⟨(Nat.le_of_ble_eq_true rfl), (Nat.le_of_ble_eq_true rfl)⟩ [0] [] hP hD hA hS rfl rfl rfl rfl (by decide) (k := 0) (ci := 12) rfl rfl rfl rfl hl.1 rfl (Nat.le_of_ble_eq_true rfl) dX12_reading_2 ⟨(Nat.le_of_ble_eq_true rfl), (Nat.le_of_ble_eq_true rfl)⟩ (fun r _u H locs hw hP hD hS => ?_)
  have hP : va_P g.1 vwCl [(h0, .inr (12, (mF q)))] H := hP
  have hD : va_D A [(h0, .inr (12, (mF q)))] := hD
  subst hw
  refine lv_if_eq (tgt := 10) hx hb dX12_reading_5 (by decide) (fun cc0 => absurd cc0 (by decide)) (fun _ => ?_)
  refine lv_iconst (v := -1) hx hb dX12_reading_8 (by decide) ?_
  exact retI C hS () rfl (hP.pick [] rfl) (hD.sub [] rfl rfl) (Nat.le_of_ble_eq_true rfl) (Nat.le_of_ble_eq_true rfl) dX12_reading_9
set_option maxRecDepth 100000 in
set_option maxHeartbeats 4000000 in
theorem m_tell (l : Launch) (g : Gt) (h0 : Nat) (q : Nat → Nat) (x1 : Int32)  : Ctr l g yX12_tell wsX12_tell ({ frames := 2, cells := 0, slots := 0, locals := 46 } : Room) [.ref h0, .int x1] [(h0, .inr (12, (mF q)))] (fun A => QI g A (fun r (_ : Unit) => r = (-1)) (fun _u : Unit => [])) := by
  refine Ctr.of (cc := cX12_tell) (maxL := 2) (ret := (some .int)) (by decide) rfl (Nat.le_of_ble_eq_true rfl) ?_
  intro p e s m below meth c A ls H C hP hD hA hS hl
  obtain ⟨hx, hb, hr, hts, hown, hlocks, hml, hin, hKN⟩ := id C
  have hK := hKN.1
  have hN := hKN.2
  have F : CallFix p m c cX12_tell 2 s _ wsX12_tell yX12_tell.cls := ⟨hx, hb, hml, hown, hts⟩
  have hl : lv_has ls 2 [(0, .ref h0), (1, .int x1)] := hl
  refine lv_aload_n hx hb dX12_tell_0 rfl (lv_at hl 0 rfl) ?_
  refine lv_iload_n hx hb dX12_tell_1 rfl (lv_at hl 1 rfl) ?_
  refine callIV (As := [.int x1]) (rest := []) (wr := []) (Cn := RX12) C (m_noCylinder l g h0 q x1) 1 gX12_tell_X12_noCylinder rfl (by decide +kernel) ⟨(Nat.le_of_ble_eq_true rfl), (Nat.le_of_ble_eq_true rfl)⟩ [0] [] hP hD hA hS rfl rfl rfl rfl (by decide) (k := 0) (ci := 12) rfl rfl rfl rfl hl.1 rfl (Nat.le_of_ble_eq_true rfl) dX12_tell_2 ⟨(Nat.le_of_ble_eq_true rfl), (Nat.le_of_ble_eq_true rfl)⟩ (fun r _u H locs hw hP hD hS => ?_)
  have hP : va_P g.1 vwCl [(h0, .inr (12, (mF q)))] H := hP
  have hD : va_D A [(h0, .inr (12, (mF q)))] := hD
  subst hw
  refine lv_if_eq (tgt := 10) hx hb dX12_tell_5 (by decide) (fun cc0 => absurd cc0 (by decide)) (fun _ => ?_)
  refine lv_iconst (v := -1) hx hb dX12_tell_8 (by decide) ?_
  exact retI C hS () rfl (hP.pick [] rfl) (hD.sub [] rfl rfl) (Nat.le_of_ble_eq_true rfl) (Nat.le_of_ble_eq_true rfl) dX12_tell_9
set_option maxRecDepth 100000 in
set_option maxHeartbeats 4000000 in
theorem m_look (l : Launch) (g : Gt) (h0 : Nat) (q : Nat → Nat) (x1 : Int32)  : Ctr l g yX12_look wsX12_look ({ frames := 2, cells := 0, slots := 0, locals := 46 } : Room) [.ref h0, .int x1] [(h0, .inr (12, (mF q)))] (fun A => QI g A (fun r (_ : Unit) => r = (-1)) (fun _u : Unit => [])) := by
  refine Ctr.of (cc := cX12_look) (maxL := 2) (ret := (some .int)) (by decide) rfl (Nat.le_of_ble_eq_true rfl) ?_
  intro p e s m below meth c A ls H C hP hD hA hS hl
  obtain ⟨hx, hb, hr, hts, hown, hlocks, hml, hin, hKN⟩ := id C
  have hK := hKN.1
  have hN := hKN.2
  have F : CallFix p m c cX12_look 2 s _ wsX12_look yX12_look.cls := ⟨hx, hb, hml, hown, hts⟩
  have hl : lv_has ls 2 [(0, .ref h0), (1, .int x1)] := hl
  refine lv_aload_n hx hb dX12_look_0 rfl (lv_at hl 0 rfl) ?_
  refine lv_iload_n hx hb dX12_look_1 rfl (lv_at hl 1 rfl) ?_
  refine callIV (As := [.int x1]) (rest := []) (wr := []) (Cn := RX12) C (m_noCylinder l g h0 q x1) 1 gX12_look_X12_noCylinder rfl (by decide +kernel) ⟨(Nat.le_of_ble_eq_true rfl), (Nat.le_of_ble_eq_true rfl)⟩ [0] [] hP hD hA hS rfl rfl rfl rfl (by decide) (k := 0) (ci := 12) rfl rfl rfl rfl hl.1 rfl (Nat.le_of_ble_eq_true rfl) dX12_look_2 ⟨(Nat.le_of_ble_eq_true rfl), (Nat.le_of_ble_eq_true rfl)⟩ (fun r _u H locs hw hP hD hS => ?_)
  have hP : va_P g.1 vwCl [(h0, .inr (12, (mF q)))] H := hP
  have hD : va_D A [(h0, .inr (12, (mF q)))] := hD
  subst hw
  refine lv_if_eq (tgt := 10) hx hb dX12_look_5 (by decide) (fun cc0 => absurd cc0 (by decide)) (fun _ => ?_)
  refine lv_iconst (v := -1) hx hb dX12_look_8 (by decide) ?_
  exact retI C hS () rfl (hP.pick [] rfl) (hD.sub [] rfl rfl) (Nat.le_of_ble_eq_true rfl) (Nat.le_of_ble_eq_true rfl) dX12_look_9
set_option maxRecDepth 100000 in
set_option maxHeartbeats 4000000 in
theorem m_as (l : Launch) (g : Gt) (h0 : Nat) (q : Nat → Nat) (x1 : Int32) (x2 : Int32)  : Ctr l g yX12_as wsX12_as ({ frames := 2, cells := 0, slots := 0, locals := 46 } : Room) [.ref h0, .int x1, .int x2] [(h0, .inr (12, (mF q)))] (fun A => QI g A (fun r (_ : Unit) => r = (-1)) (fun _u : Unit => [])) := by
  refine Ctr.of (cc := cX12_as) (maxL := 3) (ret := (some .int)) (by decide) rfl (Nat.le_of_ble_eq_true rfl) ?_
  intro p e s m below meth c A ls H C hP hD hA hS hl
  obtain ⟨hx, hb, hr, hts, hown, hlocks, hml, hin, hKN⟩ := id C
  have hK := hKN.1
  have hN := hKN.2
  have F : CallFix p m c cX12_as 3 s _ wsX12_as yX12_as.cls := ⟨hx, hb, hml, hown, hts⟩
  have hl : lv_has ls 3 [(0, .ref h0), (1, .int x1), (2, .int x2)] := hl
  refine lv_aload_n hx hb dX12_as_0 rfl (lv_at hl 0 rfl) ?_
  refine lv_iload_n hx hb dX12_as_1 rfl (lv_at hl 1 rfl) ?_
  refine callIV (As := [.int x1]) (rest := []) (wr := []) (Cn := RX12) C (m_noCylinder l g h0 q x1) 1 gX12_as_X12_noCylinder rfl (by decide +kernel) ⟨(Nat.le_of_ble_eq_true rfl), (Nat.le_of_ble_eq_true rfl)⟩ [0] [] hP hD hA hS rfl rfl rfl rfl (by decide) (k := 0) (ci := 12) rfl rfl rfl rfl hl.1 rfl (Nat.le_of_ble_eq_true rfl) dX12_as_2 ⟨(Nat.le_of_ble_eq_true rfl), (Nat.le_of_ble_eq_true rfl)⟩ (fun r _u H locs hw hP hD hS => ?_)
  have hP : va_P g.1 vwCl [(h0, .inr (12, (mF q)))] H := hP
  have hD : va_D A [(h0, .inr (12, (mF q)))] := hD
  subst hw
  refine lv_if_eq (tgt := 14) hx hb dX12_as_5 (by decide) (fun cc0 => absurd cc0 (by decide)) (fun _ => ?_)
  refine lv_aload_n hx hb dX12_as_8 rfl (lv_at hl 0 rfl) ?_
  refine lv_iconst (v := -1) hx hb dX12_as_9 (by decide) ?_
  refine callIV (As := [.int (-1)]) (rest := []) (wr := []) (Cn := RX12) C (m_refused l g h0 q (-1)) 1 gX12_as_X12_refused rfl (by decide +kernel) ⟨(Nat.le_of_ble_eq_true rfl), (Nat.le_of_ble_eq_true rfl)⟩ [0] [] hP hD hA hS rfl rfl rfl rfl (by decide) (k := 0) (ci := 12) rfl rfl rfl rfl hl.1 rfl (Nat.le_of_ble_eq_true rfl) dX12_as_10 ⟨(Nat.le_of_ble_eq_true rfl), (Nat.le_of_ble_eq_true rfl)⟩ (fun r _u H locs hw hP hD hS => ?_)
  have hP : va_P g.1 vwCl [] H := hP
  have hD : va_D A [] := hD
  subst hw
  exact retI C hS () rfl (hP.pick [] rfl) (hD.sub [] rfl rfl) (Nat.le_of_ble_eq_true rfl) (Nat.le_of_ble_eq_true rfl) dX12_as_13
set_option maxRecDepth 100000 in
set_option maxHeartbeats 4000000 in
theorem m_loads (l : Launch) (g : Gt) (h0 : Nat) (q : Nat → Nat) (x1 : Int32) (x2 : Int32) (x3 : Int32) (x4 : Int32) (x5 : Int32)  : Ctr l g yX12_loads wsX12_loads ({ frames := 2, cells := 0, slots := 0, locals := 46 } : Room) [.ref h0, .int x1, .int x2, .int x3, .int x4, .int x5] [(h0, .inr (12, (mF q)))] (fun A => QI g A (fun r (_ : Unit) => r = (-1)) (fun _u : Unit => [])) := by
  refine Ctr.of (cc := cX12_loads) (maxL := 7) (ret := (some .int)) (by decide) rfl (Nat.le_of_ble_eq_true rfl) ?_
  intro p e s m below meth c A ls H C hP hD hA hS hl
  obtain ⟨hx, hb, hr, hts, hown, hlocks, hml, hin, hKN⟩ := id C
  have hK := hKN.1
  have hN := hKN.2
  have F : CallFix p m c cX12_loads 7 s _ wsX12_loads yX12_loads.cls := ⟨hx, hb, hml, hown, hts⟩
  have hl : lv_has ls 7 [(0, .ref h0), (1, .int x1), (2, .int x2), (3, .int x3), (4, .int x4), (5, .int x5)] := hl
  refine lv_aload_n hx hb dX12_loads_0 rfl (lv_at hl 0 rfl) ?_
  refine lv_iload_n hx hb dX12_loads_1 rfl (lv_at hl 1 rfl) ?_
  refine callIV (As := [.int x1]) (rest := []) (wr := []) (Cn := RX12) C (m_noCylinder l g h0 q x1) 1 gX12_loads_X12_noCylinder rfl (by decide +kernel) ⟨(Nat.le_of_ble_eq_true rfl), (Nat.le_of_ble_eq_true rfl)⟩ [0] [] hP hD hA hS rfl rfl rfl rfl (by decide) (k := 0) (ci := 12) rfl rfl rfl rfl hl.1 rfl (Nat.le_of_ble_eq_true rfl) dX12_loads_2 ⟨(Nat.le_of_ble_eq_true rfl), (Nat.le_of_ble_eq_true rfl)⟩ (fun r _u H locs hw hP hD hS => ?_)
  have hP : va_P g.1 vwCl [(h0, .inr (12, (mF q)))] H := hP
  have hD : va_D A [(h0, .inr (12, (mF q)))] := hD
  subst hw
  refine lv_if_ne (tgt := 15) hx hb dX12_loads_5 (by decide) (fun _ => ?_) (fun cc0 => absurd cc0 (by decide))
  refine lv_aload_n hx hb dX12_loads_15 rfl (lv_at hl 0 rfl) ?_
  refine lv_iconst (v := -1) hx hb dX12_loads_16 (by decide) ?_
  refine callIV (As := [.int (-1)]) (rest := []) (wr := []) (Cn := RX12) C (m_refused l g h0 q (-1)) 1 gX12_loads_X12_refused rfl (by decide +kernel) ⟨(Nat.le_of_ble_eq_true rfl), (Nat.le_of_ble_eq_true rfl)⟩ [0] [] hP hD hA hS rfl rfl rfl rfl (by decide) (k := 0) (ci := 12) rfl rfl rfl rfl hl.1 rfl (Nat.le_of_ble_eq_true rfl) dX12_loads_17 ⟨(Nat.le_of_ble_eq_true rfl), (Nat.le_of_ble_eq_true rfl)⟩ (fun r _u H locs hw hP hD hS => ?_)
  have hP : va_P g.1 vwCl [] H := hP
  have hD : va_D A [] := hD
  subst hw
  exact retI C hS () rfl (hP.pick [] rfl) (hD.sub [] rfl rfl) (Nat.le_of_ble_eq_true rfl) (Nat.le_of_ble_eq_true rfl) dX12_loads_20
theorem hi_X12_store_X12 : ∀ w ∈ wsX120, w ∈ wsX12_store := fun w h => List.mem_cons_of_mem _ (List.mem_append_right _ h)
def r_m_store (x1 : Int32) (x2 : Int32) (x3 : Int32) : Int32 := (if (r_c_in (Int32.toInt64 x1) 0 5000) = 0 then (-2) else (if (r_c_in (Int32.toInt64 x2) 0 1000) = 0 then (-2) else (if (r_c_in (Int32.toInt64 x3) 1 100) = 0 then (-2) else (if 0 ≤ x1 then 1 else (-3)))))
set_option maxRecDepth 100000 in
set_option maxHeartbeats 4000000 in
theorem m_store (l : Launch) (g : Gt) (h0 : Nat) (q : Nat → Nat) (x1 : Int32) (x2 : Int32) (x3 : Int32)  : Ctr l g yX12_store wsX12_store ({ frames := 1, cells := 0, slots := 0, locals := 25 } : Room) [.ref h0, .int x1, .int x2, .int x3] [(h0, .inr (12, (mF q)))] (fun A => QI g A (fun r (_ : Unit) => r = (r_m_store x1 x2 x3)) (fun _u : Unit => [])) := by
  refine Ctr.of (cc := cX12_store) (maxL := 4) (ret := (some .int)) (by decide) rfl (Nat.le_of_ble_eq_true rfl) ?_
  intro p e s m below meth c A ls H C hP hD hA hS hl
  obtain ⟨hx, hb, hr, hts, hown, hlocks, hml, hin, hKN⟩ := id C
  have hK := hKN.1
  have hN := hKN.2
  have F : CallFix p m c cX12_store 4 s _ wsX12_store yX12_store.cls := ⟨hx, hb, hml, hown, hts⟩
  have hl : lv_has ls 4 [(0, .ref h0), (1, .int x1), (2, .int x2), (3, .int x3)] := hl
  refine lv_iload_n hx hb dX12_store_0 rfl (lv_at hl 1 rfl) ?_
  refine lv_i2l hx hb dX12_store_1 rfl ?_
  refine lv_lconst (v := 0) hx hb dX12_store_2 (by decide) ?_
  refine lv_ldc2 (v := 5000) hx hb hown (hts (.constantLong RX12 201 (5000)) (by decide +kernel)) dX12_store_3 ?_
  refine pureIS (As := [.long (Int32.toInt64 x1), .long 0, .long 5000]) (rest := []) F (c_in l (Int32.toInt64 x1) 0 5000) 3 gX12_store_X12_in rfl (by decide +kernel) rfl rfl ⟨(Nat.le_of_ble_eq_true rfl), (Nat.le_of_ble_eq_true rfl)⟩ (Nat.le_of_ble_eq_true rfl) (Nat.le_of_ble_eq_true rfl) rfl hl.1 rfl (Nat.le_of_ble_eq_true rfl) dX12_store_6 ?_
  refine lv_if_eq (tgt := 36) hx hb dX12_store_9 (by decide) (fun c1 => ?_) (fun c1 => ?_)
  · refine lv_bipush (v := -2) hx hb dX12_store_36 (by decide) ?_
    exact retI C hS () (by unfold r_m_store; rw [if_pos c1]) (hP.pick [] rfl) (hD.sub [] rfl rfl) (Nat.le_of_ble_eq_true rfl) (Nat.le_of_ble_eq_true rfl) dX12_store_38
  refine lv_iload_n hx hb dX12_store_12 rfl (lv_at hl 2 rfl) ?_
  refine lv_i2l hx hb dX12_store_13 rfl ?_
  refine lv_lconst (v := 0) hx hb dX12_store_14 (by decide) ?_
  refine lv_ldc2 (v := 1000) hx hb hown (hts (.constantLong RX12 182 (1000)) (by decide +kernel)) dX12_store_15 ?_
  refine pureIS (As := [.long (Int32.toInt64 x2), .long 0, .long 1000]) (rest := []) F (c_in l (Int32.toInt64 x2) 0 1000) 3 gX12_store_X12_in rfl (by decide +kernel) rfl rfl ⟨(Nat.le_of_ble_eq_true rfl), (Nat.le_of_ble_eq_true rfl)⟩ (Nat.le_of_ble_eq_true rfl) (Nat.le_of_ble_eq_true rfl) rfl hl.1 rfl (Nat.le_of_ble_eq_true rfl) dX12_store_18 ?_
  refine lv_if_eq (tgt := 36) hx hb dX12_store_21 (by decide) (fun c2 => ?_) (fun c2 => ?_)
  · refine lv_bipush (v := -2) hx hb dX12_store_36 (by decide) ?_
    exact retI C hS () (by unfold r_m_store; rw [if_neg c1, if_pos c2]) (hP.pick [] rfl) (hD.sub [] rfl rfl) (Nat.le_of_ble_eq_true rfl) (Nat.le_of_ble_eq_true rfl) dX12_store_38
  refine lv_iload_n hx hb dX12_store_24 rfl (lv_at hl 3 rfl) ?_
  refine lv_i2l hx hb dX12_store_25 rfl ?_
  refine lv_lconst (v := 1) hx hb dX12_store_26 (by decide) ?_
  refine lv_ldc2 (v := 100) hx hb hown (hts (.constantLong RX12 187 (100)) (by decide +kernel)) dX12_store_27 ?_
  refine pureIS (As := [.long (Int32.toInt64 x3), .long 1, .long 100]) (rest := []) F (c_in l (Int32.toInt64 x3) 1 100) 3 gX12_store_X12_in rfl (by decide +kernel) rfl rfl ⟨(Nat.le_of_ble_eq_true rfl), (Nat.le_of_ble_eq_true rfl)⟩ (Nat.le_of_ble_eq_true rfl) (Nat.le_of_ble_eq_true rfl) rfl hl.1 rfl (Nat.le_of_ble_eq_true rfl) dX12_store_30 ?_
  refine lv_if_ne (tgt := 39) hx hb dX12_store_33 (by decide) (fun c3 => ?_) (fun c3 => ?_)
  · refine lv_aload_n hx hb dX12_store_39 rfl (lv_at hl 0 rfl) ?_
    refine va_get (D := g.1) (ci := 12) (v := .int 0) (C := RX12) (T := TX12) (N := 66) hx hb hts hi_X12_store_X12 hown hK hP 0 rfl rfl 23 (by decide) (hts (.fieldLink RX12 203 "OilPushModel" "kept" "I") (by decide +kernel)) (fun _ h => h) rfl dX12_store_40 ?_
    refine lv_iload_n hx hb dX12_store_43 rfl (lv_at hl 1 rfl) ?_
    refine lv_icmp_le (tgt := 50) hx hb dX12_store_44 (by decide) (fun c4 => ?_) (fun c4 => ?_)
    · refine lv_aload_n hx hb dX12_store_50 rfl (lv_at hl 0 rfl) ?_
      refine lv_iload_n hx hb dX12_store_51 rfl (lv_at hl 1 rfl) ?_
      refine va_put (D := g.1) (ci := 12) (v := .int x1) (ty := .int) (C := RX12) (T := TX12) (N := 66) hx hb hts hi_X12_store_X12 tyX12 tyX12_ok nmX12 hown hK hP hD hS 0 rfl rfl 20 (by decide) (hts (.fieldLink RX12 206 "OilPushModel" "cap" "I") (by decide +kernel)) (fun _ h => h) rfl (by decide +kernel) rfl rfl (Nat.le_of_ble_eq_true rfl) dX12_store_52 (fun H locs hP hD hS => ?_)
      have hP : va_P g.1 vwCl [(h0, .inr (12, ((mF q).set 20 (.int x1))))] H := hP
      have hD : va_D A [(h0, .inr (12, ((mF q).set 20 (.int x1))))] := hD
      refine lv_aload_n hx hb dX12_store_55 rfl (lv_at hl 0 rfl) ?_
      refine lv_iload_n hx hb dX12_store_56 rfl (lv_at hl 2 rfl) ?_
      refine va_put (D := g.1) (ci := 12) (v := .int x2) (ty := .int) (C := RX12) (T := TX12) (N := 66) hx hb hts hi_X12_store_X12 tyX12 tyX12_ok nmX12 hown hK hP hD hS 0 rfl rfl 21 (by decide) (hts (.fieldLink RX12 209 "OilPushModel" "first" "I") (by decide +kernel)) (fun _ h => h) rfl (by decide +kernel) rfl rfl (Nat.le_of_ble_eq_true rfl) dX12_store_57 (fun H locs hP hD hS => ?_)
      have hP : va_P g.1 vwCl [(h0, .inr (12, (((mF q).set 20 (.int x1)).set 21 (.int x2))))] H := hP
      have hD : va_D A [(h0, .inr (12, (((mF q).set 20 (.int x1)).set 21 (.int x2))))] := hD
      refine lv_aload_n hx hb dX12_store_60 rfl (lv_at hl 0 rfl) ?_
      refine lv_iload_n hx hb dX12_store_61 rfl (lv_at hl 3 rfl) ?_
      refine va_put (D := g.1) (ci := 12) (v := .int x3) (ty := .int) (C := RX12) (T := TX12) (N := 66) hx hb hts hi_X12_store_X12 tyX12 tyX12_ok nmX12 hown hK hP hD hS 0 rfl rfl 22 (by decide) (hts (.fieldLink RX12 133 "OilPushModel" "stiff" "I") (by decide +kernel)) (fun _ h => h) rfl (by decide +kernel) rfl rfl (Nat.le_of_ble_eq_true rfl) dX12_store_62 (fun H locs hP hD hS => ?_)
      have hP : va_P g.1 vwCl [(h0, .inr (12, ((((mF q).set 20 (.int x1)).set 21 (.int x2)).set 22 (.int x3))))] H := hP
      have hD : va_D A [(h0, .inr (12, ((((mF q).set 20 (.int x1)).set 21 (.int x2)).set 22 (.int x3))))] := hD
      refine lv_iconst (v := 1) hx hb dX12_store_65 (by decide) ?_
      exact retI C hS () (by unfold r_m_store; rw [if_neg c1, if_neg c2, if_neg c3, if_pos c4]) (hP.pick [] rfl) (hD.sub [] rfl rfl) (Nat.le_of_ble_eq_true rfl) (Nat.le_of_ble_eq_true rfl) dX12_store_66
    refine lv_bipush (v := -3) hx hb dX12_store_47 (by decide) ?_
    exact retI C hS () (by unfold r_m_store; rw [if_neg c1, if_neg c2, if_neg c3, if_neg c4]) (hP.pick [] rfl) (hD.sub [] rfl rfl) (Nat.le_of_ble_eq_true rfl) (Nat.le_of_ble_eq_true rfl) dX12_store_49
  refine lv_bipush (v := -2) hx hb dX12_store_36 (by decide) ?_
  exact retI C hS () (by unfold r_m_store; rw [if_neg c1, if_neg c2, if_pos c3]) (hP.pick [] rfl) (hD.sub [] rfl rfl) (Nat.le_of_ble_eq_true rfl) (Nat.le_of_ble_eq_true rfl) dX12_store_38
theorem hi_X12_gauge_X12 : ∀ w ∈ wsX120, w ∈ wsX12_gauge := fun w h => List.mem_cons_of_mem _ (List.mem_append_right _ h)
def r_m_gauge (what : Int32) : Int32 := (if (r_c_in (Int32.toInt64 what) 0 3) = 0 then (-2) else (-3))
set_option maxRecDepth 100000 in
set_option maxHeartbeats 4000000 in
theorem m_gauge (l : Launch) (g : Gt) (h0 : Nat) (q : Nat → Nat) (what : Int32)  : Ctr l g yX12_gauge wsX12_gauge ({ frames := 1, cells := 0, slots := 0, locals := 25 } : Room) [.ref h0, .int what] [(h0, .inr (12, (mF q)))] (fun A => QI g A (fun r (_ : Unit) => r = (r_m_gauge what)) (fun _u : Unit => [])) := by
  refine Ctr.of (cc := cX12_gauge) (maxL := 2) (ret := (some .int)) (by decide) rfl (Nat.le_of_ble_eq_true rfl) ?_
  intro p e s m below meth c A ls H C hP hD hA hS hl
  obtain ⟨hx, hb, hr, hts, hown, hlocks, hml, hin, hKN⟩ := id C
  have hK := hKN.1
  have hN := hKN.2
  have F : CallFix p m c cX12_gauge 2 s _ wsX12_gauge yX12_gauge.cls := ⟨hx, hb, hml, hown, hts⟩
  have hl : lv_has ls 2 [(0, .ref h0), (1, .int what)] := hl
  refine lv_iload_n hx hb dX12_gauge_0 rfl (lv_at hl 1 rfl) ?_
  refine lv_i2l hx hb dX12_gauge_1 rfl ?_
  refine lv_lconst (v := 0) hx hb dX12_gauge_2 (by decide) ?_
  refine lv_ldc2 (v := 3) hx hb hown (hts (.constantLong RX12 148 (3)) (by decide +kernel)) dX12_gauge_3 ?_
  refine pureIS (As := [.long (Int32.toInt64 what), .long 0, .long 3]) (rest := []) F (c_in l (Int32.toInt64 what) 0 3) 3 gX12_gauge_X12_in rfl (by decide +kernel) rfl rfl ⟨(Nat.le_of_ble_eq_true rfl), (Nat.le_of_ble_eq_true rfl)⟩ (Nat.le_of_ble_eq_true rfl) (Nat.le_of_ble_eq_true rfl) rfl hl.1 rfl (Nat.le_of_ble_eq_true rfl) dX12_gauge_6 ?_
  refine lv_if_ne (tgt := 15) hx hb dX12_gauge_9 (by decide) (fun c1 => ?_) (fun c1 => ?_)
  · refine lv_aload_n hx hb dX12_gauge_15 rfl (lv_at hl 0 rfl) ?_
    refine va_get (D := g.1) (ci := 12) (v := .int 0) (C := RX12) (T := TX12) (N := 66) hx hb hts hi_X12_gauge_X12 hown hK hP 0 rfl rfl 31 (by decide) (hts (.fieldLink RX12 269 "OilPushModel" "isTicked" "Z") (by decide +kernel)) (fun _ h => h) rfl dX12_gauge_16 ?_
    refine lv_if_ne (tgt := 25) hx hb dX12_gauge_19 (by decide) (fun cc0 => absurd cc0 (by decide)) (fun _ => ?_)
    refine lv_bipush (v := -3) hx hb dX12_gauge_22 (by decide) ?_
    exact retI C hS () (by unfold r_m_gauge; rw [if_neg c1]) (hP.pick [] rfl) (hD.sub [] rfl rfl) (Nat.le_of_ble_eq_true rfl) (Nat.le_of_ble_eq_true rfl) dX12_gauge_24
  refine lv_bipush (v := -2) hx hb dX12_gauge_12 (by decide) ?_
  exact retI C hS () (by unfold r_m_gauge; rw [if_pos c1]) (hP.pick [] rfl) (hD.sub [] rfl rfl) (Nat.le_of_ble_eq_true rfl) (Nat.le_of_ble_eq_true rfl) dX12_gauge_14
theorem hi_X12_mover_X12 : ∀ w ∈ wsX120, w ∈ wsX12_mover := fun w h => List.mem_cons_of_mem _ (List.mem_append_right _ h)
set_option maxRecDepth 100000 in
set_option maxHeartbeats 4000000 in
theorem m_mover (l : Launch) (g : Gt) (h0 : Nat) (q : Nat → Nat) (i : Int32)  : Ctr l g yX12_mover wsX12_mover ({ frames := 1, cells := 0, slots := 0, locals := 25 } : Room) [.ref h0, .int i] [(h0, .inr (12, (mF q)))] (fun A => QI g A (fun r (_ : Unit) => r = (-1)) (fun _u : Unit => [])) := by
  refine Ctr.of (cc := cX12_mover) (maxL := 2) (ret := (some .int)) (by decide) rfl (Nat.le_of_ble_eq_true rfl) ?_
  intro p e s m below meth c A ls H C hP hD hA hS hl
  obtain ⟨hx, hb, hr, hts, hown, hlocks, hml, hin, hKN⟩ := id C
  have hK := hKN.1
  have hN := hKN.2
  have F : CallFix p m c cX12_mover 2 s _ wsX12_mover yX12_mover.cls := ⟨hx, hb, hml, hown, hts⟩
  have hl : lv_has ls 2 [(0, .ref h0), (1, .int i)] := hl
  refine lv_iload_n hx hb dX12_mover_0 rfl (lv_at hl 1 rfl) ?_
  refine lv_i2l hx hb dX12_mover_1 rfl ?_
  refine lv_lconst (v := 0) hx hb dX12_mover_2 (by decide) ?_
  refine lv_aload_n hx hb dX12_mover_3 rfl (lv_at hl 0 rfl) ?_
  refine va_get (D := g.1) (ci := 12) (v := .int 0) (C := RX12) (T := TX12) (N := 66) hx hb hts hi_X12_mover_X12 hown hK hP 0 rfl rfl 35 (by decide) (hts (.fieldLink RX12 246 "OilPushModel" "movers" "I") (by decide +kernel)) (fun _ h => h) rfl dX12_mover_4 ?_
  refine lv_i2l (v := 0) hx hb dX12_mover_7 (by decide) ?_
  refine lv_lconst (v := 1) hx hb dX12_mover_8 (by decide) ?_
  refine lv_lsub hx hb dX12_mover_9 ?_
  refine nx_l (v := (-1)) (by decide) ?_
  refine pureIS (As := [.long (Int32.toInt64 i), .long 0, .long (-1)]) (rest := []) F (c_in l (Int32.toInt64 i) 0 (-1)) 3 gX12_mover_X12_in rfl (by decide +kernel) rfl rfl ⟨(Nat.le_of_ble_eq_true rfl), (Nat.le_of_ble_eq_true rfl)⟩ (Nat.le_of_ble_eq_true rfl) (Nat.le_of_ble_eq_true rfl) rfl hl.1 rfl (Nat.le_of_ble_eq_true rfl) dX12_mover_10 ?_
  refine lv_if_eq (tgt := 25) hx hb dX12_mover_13 (by decide) (fun _ => ?_) (fun cc0 => absurd (in_none i) cc0)
  refine lv_iconst (v := -1) hx hb dX12_mover_25 (by decide) ?_
  exact retI C hS () rfl (hP.pick [] rfl) (hD.sub [] rfl rfl) (Nat.le_of_ble_eq_true rfl) (Nat.le_of_ble_eq_true rfl) dX12_mover_26
theorem hi_X12_sum_X12 : ∀ w ∈ wsX120, w ∈ wsX12_sum := fun w h => List.mem_cons_of_mem _ (List.mem_append_right _ h)
def r_m_sum (what : Int32) : Int64 := (if what = 0 then 0 else (if what = 1 then 0 else (if what = 2 then 0 else (if what = 3 then 0 else (if what = 4 then 0 else (-9223372036854775808))))))
set_option maxRecDepth 100000 in
set_option maxHeartbeats 4000000 in
theorem m_sum (l : Launch) (g : Gt) (h0 : Nat) (q : Nat → Nat) (what : Int32)  : Ctr l g yX12_sum wsX12_sum ({ frames := 1, cells := 0, slots := 0, locals := 20 } : Room) [.ref h0, .int what] [(h0, .inr (12, (mF q)))] (fun A => QL g A (fun r (_ : Unit) => r = (r_m_sum what)) (fun _u : Unit => [])) := by
  refine Ctr.of (cc := cX12_sum) (maxL := 2) (ret := (some .long)) (by decide) rfl (Nat.le_of_ble_eq_true rfl) ?_
  intro p e s m below meth c A ls H C hP hD hA hS hl
  obtain ⟨hx, hb, hr, hts, hown, hlocks, hml, hin, hKN⟩ := id C
  have hK := hKN.1
  have hN := hKN.2
  have F : CallFix p m c cX12_sum 2 s _ wsX12_sum yX12_sum.cls := ⟨hx, hb, hml, hown, hts⟩
  have hl : lv_has ls 2 [(0, .ref h0), (1, .int what)] := hl
  refine lv_iload_n hx hb dX12_sum_0 rfl (lv_at hl 1 rfl) ?_
  by_cases w1 : what = 0
  · refine lv_tableIn (tgt := 36) (off := 35) hx hb dX12_sum_1 (by rw [w1]; decide) (by rw [w1]; decide) (by rw [w1]; rfl) (by decide) ?_
    refine lv_aload_n hx hb dX12_sum_36 rfl (lv_at hl 0 rfl) ?_
    refine va_get (D := g.1) (ci := 12) (v := .long 0) (C := RX12) (T := TX12) (N := 66) hx hb hts hi_X12_sum_X12 hown hK hP 0 rfl rfl 37 (by decide) (hts (.fieldLink RX12 259 "OilPushModel" "heat" "J") (by decide +kernel)) (fun _ h => h) rfl dX12_sum_37 ?_
    exact retL C hS () (by unfold r_m_sum; rw [if_pos w1]) (hP.pick [] rfl) (hD.sub [] rfl rfl) (Nat.le_of_ble_eq_true rfl) (Nat.le_of_ble_eq_true rfl) dX12_sum_40
  by_cases w2 : what = 1
  · refine lv_tableIn (tgt := 41) (off := 40) hx hb dX12_sum_1 (by rw [w2]; decide) (by rw [w2]; decide) (by rw [w2]; rfl) (by decide) ?_
    refine lv_aload_n hx hb dX12_sum_41 rfl (lv_at hl 0 rfl) ?_
    refine va_get (D := g.1) (ci := 12) (v := .long 0) (C := RX12) (T := TX12) (N := 66) hx hb hts hi_X12_sum_X12 hown hK hP 0 rfl rfl 38 (by decide) (hts (.fieldLink RX12 263 "OilPushModel" "work" "J") (by decide +kernel)) (fun _ h => h) rfl dX12_sum_42 ?_
    exact retL C hS () (by unfold r_m_sum; rw [if_neg w1, if_pos w2]) (hP.pick [] rfl) (hD.sub [] rfl rfl) (Nat.le_of_ble_eq_true rfl) (Nat.le_of_ble_eq_true rfl) dX12_sum_45
  by_cases w3 : what = 2
  · refine lv_tableIn (tgt := 46) (off := 45) hx hb dX12_sum_1 (by rw [w3]; decide) (by rw [w3]; decide) (by rw [w3]; rfl) (by decide) ?_
    refine lv_aload_n hx hb dX12_sum_46 rfl (lv_at hl 0 rfl) ?_
    refine va_get (D := g.1) (ci := 12) (v := .long 0) (C := RX12) (T := TX12) (N := 66) hx hb hts hi_X12_sum_X12 hown hK hP 0 rfl rfl 39 (by decide) (hts (.fieldLink RX12 266 "OilPushModel" "given" "J") (by decide +kernel)) (fun _ h => h) rfl dX12_sum_47 ?_
    exact retL C hS () (by unfold r_m_sum; rw [if_neg w1, if_neg w2, if_pos w3]) (hP.pick [] rfl) (hD.sub [] rfl rfl) (Nat.le_of_ble_eq_true rfl) (Nat.le_of_ble_eq_true rfl) dX12_sum_50
  by_cases w4 : what = 3
  · refine lv_tableIn (tgt := 51) (off := 50) hx hb dX12_sum_1 (by rw [w4]; decide) (by rw [w4]; decide) (by rw [w4]; rfl) (by decide) ?_
    refine lv_aload_n hx hb dX12_sum_51 rfl (lv_at hl 0 rfl) ?_
    refine va_get (D := g.1) (ci := 12) (v := .int 0) (C := RX12) (T := TX12) (N := 66) hx hb hts hi_X12_sum_X12 hown hK hP 0 rfl rfl 23 (by decide) (hts (.fieldLink RX12 203 "OilPushModel" "kept" "I") (by decide +kernel)) (fun _ h => h) rfl dX12_sum_52 ?_
    refine lv_i2l (v := 0) hx hb dX12_sum_55 (by decide) ?_
    exact retL C hS () (by unfold r_m_sum; rw [if_neg w1, if_neg w2, if_neg w3, if_pos w4]) (hP.pick [] rfl) (hD.sub [] rfl rfl) (Nat.le_of_ble_eq_true rfl) (Nat.le_of_ble_eq_true rfl) dX12_sum_56
  by_cases w5 : what = 4
  · refine lv_tableIn (tgt := 57) (off := 56) hx hb dX12_sum_1 (by rw [w5]; decide) (by rw [w5]; decide) (by rw [w5]; rfl) (by decide) ?_
    refine lv_aload_n hx hb dX12_sum_57 rfl (lv_at hl 0 rfl) ?_
    refine callIV (As := []) (rest := []) (wr := []) (Cn := RX12) C (m_storeP l g h0 q) 0 gX12_sum_X12_storePressure rfl (by decide +kernel) ⟨(Nat.le_of_ble_eq_true rfl), (Nat.le_of_ble_eq_true rfl)⟩ [0] [] hP hD hA hS rfl rfl rfl rfl (by decide) (k := 0) (ci := 12) rfl rfl rfl rfl hl.1 rfl (Nat.le_of_ble_eq_true rfl) dX12_sum_58 ⟨(Nat.le_of_ble_eq_true rfl), (Nat.le_of_ble_eq_true rfl)⟩ (fun r _u H locs hw hP hD hS => ?_)
    have hP : va_P g.1 vwCl [(h0, .inr (12, (mF q)))] H := hP
    have hD : va_D A [(h0, .inr (12, (mF q)))] := hD
    subst hw
    refine lv_i2l (v := 0) hx hb dX12_sum_61 (by decide) ?_
    exact retL C hS () (by unfold r_m_sum; rw [if_neg w1, if_neg w2, if_neg w3, if_neg w4, if_pos w5]) (hP.pick [] rfl) (hD.sub [] rfl rfl) (Nat.le_of_ble_eq_true rfl) (Nat.le_of_ble_eq_true rfl) dX12_sum_62
  refine lv_tableOut (tgt := 63) hx hb dX12_sum_1 (sw4 w1 w2 w3 w4 w5) (by decide) ?_
  refine pureLS (As := []) (rest := []) F (c_lost l) 0 gX12_sum_X12_lost rfl (by decide +kernel) rfl rfl ⟨(Nat.le_of_ble_eq_true rfl), (Nat.le_of_ble_eq_true rfl)⟩ (Nat.le_of_ble_eq_true rfl) (Nat.le_of_ble_eq_true rfl) rfl hl.1 rfl (Nat.le_of_ble_eq_true rfl) dX12_sum_63 ?_
  exact retL C hS () (by unfold r_m_sum; rw [if_neg w1, if_neg w2, if_neg w3, if_neg w4, if_neg w5]) (hP.pick [] rfl) (hD.sub [] rfl rfl) (Nat.le_of_ble_eq_true rfl) (Nat.le_of_ble_eq_true rfl) dX12_sum_66
theorem hi_X12_waits_X12 : ∀ w ∈ wsX120, w ∈ wsX12_waits := fun w h => List.mem_cons_of_mem _ (List.mem_append_right _ h)
set_option maxRecDepth 100000 in
set_option maxHeartbeats 4000000 in
theorem m_waits (l : Launch) (g : Gt) (h0 : Nat) (q : Nat → Nat)  : Ctr l g yX12_waits wsX12_waits ({ frames := 0, cells := 0, slots := 0, locals := 0 } : Room) [.ref h0] [(h0, .inr (12, (mF q)))] (fun A => QI g A (fun r (_ : Unit) => r = 0) (fun _u : Unit => [])) := by
  refine Ctr.of (cc := cX12_waits) (maxL := 1) (ret := (some .int)) (by decide) rfl (Nat.le_of_ble_eq_true rfl) ?_
  intro p e s m below meth c A ls H C hP hD hA hS hl
  obtain ⟨hx, hb, hr, hts, hown, hlocks, hml, hin, hKN⟩ := id C
  have hK := hKN.1
  have hN := hKN.2
  have F : CallFix p m c cX12_waits 1 s _ wsX12_waits yX12_waits.cls := ⟨hx, hb, hml, hown, hts⟩
  have hl : lv_has ls 1 [(0, .ref h0)] := hl
  refine lv_aload_n hx hb dX12_waits_0 rfl (lv_at hl 0 rfl) ?_
  refine va_get (D := g.1) (ci := 12) (v := .int 0) (C := RX12) (T := TX12) (N := 66) hx hb hts hi_X12_waits_X12 hown hK hP 0 rfl rfl 29 (by decide) (hts (.fieldLink RX12 224 "OilPushModel" "waiting" "I") (by decide +kernel)) (fun _ h => h) rfl dX12_waits_1 ?_
  exact retI C hS () rfl (hP.pick [] rfl) (hD.sub [] rfl rfl) (Nat.le_of_ble_eq_true rfl) (Nat.le_of_ble_eq_true rfl) dX12_waits_4
theorem hi_X12_start_X12 : ∀ w ∈ wsX120, w ∈ wsX12_start := fun w h => List.mem_cons_of_mem _ (List.mem_append_right _ h)
set_option maxRecDepth 100000 in
set_option maxHeartbeats 4000000 in
theorem m_start (l : Launch) (g : Gt) (h0 : Nat) (q : Nat → Nat)  : Ctr l g yX12_start wsX12_start ({ frames := 0, cells := 0, slots := 0, locals := 0 } : Room) [.ref h0] [(h0, .inr (12, (mF q)))] (fun A => QI g A (fun r (_ : Unit) => r = 1) (fun _u : Unit => [])) := by
  refine Ctr.of (cc := cX12_start) (maxL := 2) (ret := (some .int)) (by decide) rfl (Nat.le_of_ble_eq_true rfl) ?_
  intro p e s m below meth c A ls H C hP hD hA hS hl
  obtain ⟨hx, hb, hr, hts, hown, hlocks, hml, hin, hKN⟩ := id C
  have hK := hKN.1
  have hN := hKN.2
  have F : CallFix p m c cX12_start 2 s _ wsX12_start yX12_start.cls := ⟨hx, hb, hml, hown, hts⟩
  have hl : lv_has ls 2 [(0, .ref h0)] := hl
  refine lv_aload_n hx hb dX12_start_0 rfl (lv_at hl 0 rfl) ?_
  refine lv_iconst (v := 1) hx hb dX12_start_1 (by decide) ?_
  refine va_put (D := g.1) (ci := 12) (v := .int 1) (ty := .boolean) (C := RX12) (T := TX12) (N := 66) hx hb hts hi_X12_start_X12 tyX12 tyX12_ok nmX12 hown hK hP hD hS 0 rfl rfl 45 (by decide) (hts (.fieldLink RX12 279 "OilPushModel" "isStarted" "Z") (by decide +kernel)) (fun _ h => h) rfl (by decide +kernel) rfl rfl (Nat.le_of_ble_eq_true rfl) dX12_start_2 (fun H locs hP hD hS => ?_)
  have hP : va_P g.1 vwCl [(h0, .inr (12, ((mF q).set 45 (.int 1))))] H := hP
  have hD : va_D A [(h0, .inr (12, ((mF q).set 45 (.int 1))))] := hD
  refine lv_aload_n hx hb dX12_start_5 rfl (lv_at hl 0 rfl) ?_
  refine lv_aload_n hx hb dX12_start_6 rfl (lv_at hl 0 rfl) ?_
  refine va_get (D := g.1) (ci := 12) (v := .int 0) (C := RX12) (T := TX12) (N := 66) hx hb hts hi_X12_start_X12 hown hK hP 0 rfl rfl 7 (by decide) (hts (.fieldLink RX12 179 "OilPushModel" "cylinders" "I") (by decide +kernel)) (fun _ h => h) rfl dX12_start_7 ?_
  refine va_put (D := g.1) (ci := 12) (v := .int 0) (ty := .int) (C := RX12) (T := TX12) (N := 66) hx hb hts hi_X12_start_X12 tyX12 tyX12_ok nmX12 hown hK hP hD hS 0 rfl rfl 46 (by decide) (hts (.fieldLink RX12 282 "OilPushModel" "startMany" "I") (by decide +kernel)) (fun _ h => h) rfl (by decide +kernel) rfl rfl (Nat.le_of_ble_eq_true rfl) dX12_start_10 (fun H locs hP hD hS => ?_)
  have hP : va_P g.1 vwCl [(h0, .inr (12, ((mF q).set 45 (.int 1))))] H := hP
  have hD : va_D A [(h0, .inr (12, ((mF q).set 45 (.int 1))))] := hD
  refine lv_iconst (v := 0) hx hb dX12_start_13 (by decide) ?_
  refine lv_istore_n (lv' := [(1, .int 0), (0, .ref h0)]) hx hb dX12_start_14 rfl hl (by decide) rfl (fun ls hl => ?_)
  refine lv_iload_n hx hb dX12_start_15 rfl (lv_at hl 0 rfl) ?_
  refine lv_aload_n hx hb dX12_start_16 rfl (lv_at hl 1 rfl) ?_
  refine va_get (D := g.1) (ci := 12) (v := .int 0) (C := RX12) (T := TX12) (N := 66) hx hb hts hi_X12_start_X12 hown hK hP 0 rfl rfl 7 (by decide) (hts (.fieldLink RX12 179 "OilPushModel" "cylinders" "I") (by decide +kernel)) (fun _ h => h) rfl dX12_start_17 ?_
  refine lv_icmp_ge (tgt := 65) hx hb dX12_start_20 (by decide) (fun _ => ?_) (fun cc0 => absurd cc0 (by decide))
  refine lv_aload_n hx hb dX12_start_65 rfl (lv_at hl 1 rfl) ?_
  refine lv_aload_n hx hb dX12_start_66 rfl (lv_at hl 1 rfl) ?_
  refine va_get (D := g.1) (ci := 12) (v := .int 0) (C := RX12) (T := TX12) (N := 66) hx hb hts hi_X12_start_X12 hown hK hP 0 rfl rfl 23 (by decide) (hts (.fieldLink RX12 203 "OilPushModel" "kept" "I") (by decide +kernel)) (fun _ h => h) rfl dX12_start_67 ?_
  refine va_put (D := g.1) (ci := 12) (v := .int 0) (ty := .int) (C := RX12) (T := TX12) (N := 66) hx hb hts hi_X12_start_X12 tyX12 tyX12_ok nmX12 hown hK hP hD hS 0 rfl rfl 50 (by decide) (hts (.fieldLink RX12 285 "OilPushModel" "startKept" "I") (by decide +kernel)) (fun _ h => h) rfl (by decide +kernel) rfl rfl (Nat.le_of_ble_eq_true rfl) dX12_start_70 (fun H locs hP hD hS => ?_)
  have hP : va_P g.1 vwCl [(h0, .inr (12, ((mF q).set 45 (.int 1))))] H := hP
  have hD : va_D A [(h0, .inr (12, ((mF q).set 45 (.int 1))))] := hD
  refine lv_aload_n hx hb dX12_start_73 rfl (lv_at hl 1 rfl) ?_
  refine lv_aload_n hx hb dX12_start_74 rfl (lv_at hl 1 rfl) ?_
  refine va_get (D := g.1) (ci := 12) (v := .int 0) (C := RX12) (T := TX12) (N := 66) hx hb hts hi_X12_start_X12 hown hK hP 0 rfl rfl 29 (by decide) (hts (.fieldLink RX12 224 "OilPushModel" "waiting" "I") (by decide +kernel)) (fun _ h => h) rfl dX12_start_75 ?_
  refine va_put (D := g.1) (ci := 12) (v := .int 0) (ty := .int) (C := RX12) (T := TX12) (N := 66) hx hb hts hi_X12_start_X12 tyX12 tyX12_ok nmX12 hown hK hP hD hS 0 rfl rfl 51 (by decide) (hts (.fieldLink RX12 288 "OilPushModel" "startWaiting" "I") (by decide +kernel)) (fun _ h => h) rfl (by decide +kernel) rfl rfl (Nat.le_of_ble_eq_true rfl) dX12_start_78 (fun H locs hP hD hS => ?_)
  have hP : va_P g.1 vwCl [(h0, .inr (12, ((mF q).set 45 (.int 1))))] H := hP
  have hD : va_D A [(h0, .inr (12, ((mF q).set 45 (.int 1))))] := hD
  refine lv_aload_n hx hb dX12_start_81 rfl (lv_at hl 1 rfl) ?_
  refine lv_iconst (v := 0) hx hb dX12_start_82 (by decide) ?_
  refine va_put (D := g.1) (ci := 12) (v := .int 0) (ty := .int) (C := RX12) (T := TX12) (N := 66) hx hb hts hi_X12_start_X12 tyX12 tyX12_ok nmX12 hown hK hP hD hS 0 rfl rfl 30 (by decide) (hts (.fieldLink RX12 136 "OilPushModel" "sinceStart" "I") (by decide +kernel)) (fun _ h => h) rfl (by decide +kernel) rfl rfl (Nat.le_of_ble_eq_true rfl) dX12_start_83 (fun H locs hP hD hS => ?_)
  have hP : va_P g.1 vwCl [(h0, .inr (12, ((mF q).set 45 (.int 1))))] H := hP
  have hD : va_D A [(h0, .inr (12, ((mF q).set 45 (.int 1))))] := hD
  refine lv_iconst (v := 1) hx hb dX12_start_86 (by decide) ?_
  exact retI C hS () rfl (hP.pick [] rfl) (hD.sub [] rfl rfl) (Nat.le_of_ble_eq_true rfl) (Nat.le_of_ble_eq_true rfl) dX12_start_87
theorem hi_X12_forget_X12 : ∀ w ∈ wsX120, w ∈ wsX12_forget := fun w h => List.mem_cons_of_mem _ (List.mem_append_right _ h)
set_option maxRecDepth 100000 in
set_option maxHeartbeats 4000000 in
theorem m_forget (l : Launch) (g : Gt) (h0 : Nat) (q : Nat → Nat)  : Ctr l g yX12_forget wsX12_forget ({ frames := 0, cells := 0, slots := 0, locals := 0 } : Room) [.ref h0] [(h0, .inr (12, (mF q)))] (fun A => QI g A (fun r (_ : Unit) => r = 0) (fun _u : Unit => [])) := by
  refine Ctr.of (cc := cX12_forget) (maxL := 2) (ret := (some .int)) (by decide) rfl (Nat.le_of_ble_eq_true rfl) ?_
  intro p e s m below meth c A ls H C hP hD hA hS hl
  obtain ⟨hx, hb, hr, hts, hown, hlocks, hml, hin, hKN⟩ := id C
  have hK := hKN.1
  have hN := hKN.2
  have F : CallFix p m c cX12_forget 2 s _ wsX12_forget yX12_forget.cls := ⟨hx, hb, hml, hown, hts⟩
  have hl : lv_has ls 2 [(0, .ref h0)] := hl
  refine lv_aload_n hx hb dX12_forget_0 rfl (lv_at hl 0 rfl) ?_
  refine va_get (D := g.1) (ci := 12) (v := .int 0) (C := RX12) (T := TX12) (N := 66) hx hb hts hi_X12_forget_X12 hown hK hP 0 rfl rfl 52 (by decide) (hts (.fieldLink RX12 291 "OilPushModel" "readings" "I") (by decide +kernel)) (fun _ h => h) rfl dX12_forget_1 ?_
  refine lv_istore_n (lv' := [(1, .int 0), (0, .ref h0)]) hx hb dX12_forget_4 rfl hl (by decide) rfl (fun ls hl => ?_)
  refine lv_aload_n hx hb dX12_forget_5 rfl (lv_at hl 1 rfl) ?_
  refine lv_iconst (v := 0) hx hb dX12_forget_6 (by decide) ?_
  refine va_put (D := g.1) (ci := 12) (v := .int 0) (ty := .int) (C := RX12) (T := TX12) (N := 66) hx hb hts hi_X12_forget_X12 tyX12 tyX12_ok nmX12 hown hK hP hD hS 0 rfl rfl 52 (by decide) (hts (.fieldLink RX12 291 "OilPushModel" "readings" "I") (by decide +kernel)) (fun _ h => h) rfl (by decide +kernel) rfl rfl (Nat.le_of_ble_eq_true rfl) dX12_forget_7 (fun H locs hP hD hS => ?_)
  have hP : va_P g.1 vwCl [(h0, .inr (12, (mF q)))] H := hP
  have hD : va_D A [(h0, .inr (12, (mF q)))] := hD
  refine lv_iload_n hx hb dX12_forget_10 rfl (lv_at hl 0 rfl) ?_
  exact retI C hS () rfl (hP.pick [] rfl) (hD.sub [] rfl rfl) (Nat.le_of_ble_eq_true rfl) (Nat.le_of_ble_eq_true rfl) dX12_forget_11
theorem hi_X12_leak_X12 : ∀ w ∈ wsX120, w ∈ wsX12_leak := fun w h => List.mem_cons_of_mem _ (List.mem_append_right _ h)
def r_m_leak (what : Int32) : Int32 := (if (r_c_in (Int32.toInt64 what) 0 1) = 0 then (-2) else (-3))
set_option maxRecDepth 100000 in
set_option maxHeartbeats 4000000 in
theorem m_leak (l : Launch) (g : Gt) (h0 : Nat) (q : Nat → Nat) (what : Int32)  : Ctr l g yX12_leak wsX12_leak ({ frames := 1, cells := 0, slots := 0, locals := 25 } : Room) [.ref h0, .int what] [(h0, .inr (12, (mF q)))] (fun A => QI g A (fun r (_ : Unit) => r = (r_m_leak what)) (fun _u : Unit => [])) := by
  refine Ctr.of (cc := cX12_leak) (maxL := 5) (ret := (some .int)) (by decide) rfl (Nat.le_of_ble_eq_true rfl) ?_
  intro p e s m below meth c A ls H C hP hD hA hS hl
  obtain ⟨hx, hb, hr, hts, hown, hlocks, hml, hin, hKN⟩ := id C
  have hK := hKN.1
  have hN := hKN.2
  have F : CallFix p m c cX12_leak 5 s _ wsX12_leak yX12_leak.cls := ⟨hx, hb, hml, hown, hts⟩
  have hl : lv_has ls 5 [(0, .ref h0), (1, .int what)] := hl
  refine lv_iload_n hx hb dX12_leak_0 rfl (lv_at hl 1 rfl) ?_
  refine lv_i2l hx hb dX12_leak_1 rfl ?_
  refine lv_lconst (v := 0) hx hb dX12_leak_2 (by decide) ?_
  refine lv_lconst (v := 1) hx hb dX12_leak_3 (by decide) ?_
  refine pureIS (As := [.long (Int32.toInt64 what), .long 0, .long 1]) (rest := []) F (c_in l (Int32.toInt64 what) 0 1) 3 gX12_leak_X12_in rfl (by decide +kernel) rfl rfl ⟨(Nat.le_of_ble_eq_true rfl), (Nat.le_of_ble_eq_true rfl)⟩ (Nat.le_of_ble_eq_true rfl) (Nat.le_of_ble_eq_true rfl) rfl hl.1 rfl (Nat.le_of_ble_eq_true rfl) dX12_leak_4 ?_
  refine lv_if_ne (tgt := 13) hx hb dX12_leak_7 (by decide) (fun c1 => ?_) (fun c1 => ?_)
  · refine lv_aload_n hx hb dX12_leak_13 rfl (lv_at hl 0 rfl) ?_
    refine va_get (D := g.1) (ci := 12) (v := .int 0) (C := RX12) (T := TX12) (N := 66) hx hb hts hi_X12_leak_X12 hown hK hP 0 rfl rfl 45 (by decide) (hts (.fieldLink RX12 279 "OilPushModel" "isStarted" "Z") (by decide +kernel)) (fun _ h => h) rfl dX12_leak_14 ?_
    refine lv_if_eq (tgt := 41) hx hb dX12_leak_17 (by decide) (fun _ => ?_) (fun cc0 => absurd cc0 (by decide))
    refine lv_bipush (v := -3) hx hb dX12_leak_41 (by decide) ?_
    exact retI C hS () (by unfold r_m_leak; rw [if_neg c1]) (hP.pick [] rfl) (hD.sub [] rfl rfl) (Nat.le_of_ble_eq_true rfl) (Nat.le_of_ble_eq_true rfl) dX12_leak_43
  refine lv_bipush (v := -2) hx hb dX12_leak_10 (by decide) ?_
  exact retI C hS () (by unfold r_m_leak; rw [if_pos c1]) (hP.pick [] rfl) (hD.sub [] rfl rfl) (Nat.le_of_ble_eq_true rfl) (Nat.le_of_ble_eq_true rfl) dX12_leak_12
theorem hi_X12_lose_X12 : ∀ w ∈ wsX120, w ∈ wsX12_lose := fun w h => List.mem_cons_of_mem _ (List.mem_append_right _ h)
def r_m_lose (k : Int32) : Int32 := (if (r_c_noSheet k) = 0 then 0 else (-1))
set_option maxRecDepth 100000 in
set_option maxHeartbeats 4000000 in
theorem m_lose (l : Launch) (g : Gt) (h0 : Nat) (q : Nat → Nat) (k : Int32)  : Ctr l g yX12_lose wsX12_lose ({ frames := 2, cells := 0, slots := 0, locals := 45 } : Room) [.ref h0, .int k] [(h0, .inr (12, (mF q))), ((q 1), .inl (g.2 0, 4, .inl mSz))] (fun A => QI g A (fun r (_ : Unit) => r = (r_m_lose k)) (fun _u : Unit => [])) := by
  refine Ctr.of (cc := cX12_lose) (maxL := 3) (ret := (some .int)) (by decide) rfl (Nat.le_of_ble_eq_true rfl) ?_
  intro p e s m below meth c A ls H C hP hD hA hS hl
  obtain ⟨hx, hb, hr, hts, hown, hlocks, hml, hin, hKN⟩ := id C
  have hK := hKN.1
  have hN := hKN.2
  have F : CallFix p m c cX12_lose 3 s _ wsX12_lose yX12_lose.cls := ⟨hx, hb, hml, hown, hts⟩
  have hl : lv_has ls 3 [(0, .ref h0), (1, .int k)] := hl
  refine lv_iload_n hx hb dX12_lose_0 rfl (lv_at hl 1 rfl) ?_
  refine pureIS (As := [.int k]) (rest := []) F (c_noSheet l k) 1 gX12_lose_X12_noSheet rfl (by decide +kernel) rfl rfl ⟨(Nat.le_of_ble_eq_true rfl), (Nat.le_of_ble_eq_true rfl)⟩ (Nat.le_of_ble_eq_true rfl) (Nat.le_of_ble_eq_true rfl) rfl hl.1 rfl (Nat.le_of_ble_eq_true rfl) dX12_lose_1 ?_
  refine lv_if_eq (tgt := 9) hx hb dX12_lose_4 (by decide) (fun c1 => ?_) (fun c1 => ?_)
  · refine lv_aload_n hx hb dX12_lose_9 rfl (lv_at hl 0 rfl) ?_
    refine va_get (D := g.1) (ci := 12) (v := .ref (q 1)) (C := RX12) (T := TX12) (N := 66) hx hb hts hi_X12_lose_X12 hown hK hP 0 rfl rfl 1 (by decide) (hts (.fieldLink RX12 7 "OilPushModel" "sheetSize" "[I") (by decide +kernel)) (fun _ h => h) rfl dX12_lose_10 ?_
    refine lv_iload_n hx hb dX12_lose_13 rfl (lv_at hl 1 rfl) ?_
    refine va_iald hx hb hK hP 1 0 rfl rfl (noSheet_in c1) dX12_lose_14 ?_
    refine nx_i (v := (-1)) (mSz_at (noSheet_in c1)) ?_
    refine lv_if_ge (tgt := 22) hx hb dX12_lose_15 (by decide) (fun cc0 => absurd cc0 (by decide)) (fun _ => ?_)
    refine lv_iconst (v := 0) hx hb dX12_lose_18 (by decide) ?_
    refine lv_goto (tgt := 23) hx hb dX12_lose_19 (by decide) ?_
    refine lv_istore_n (lv' := [(2, .int 0), (0, .ref h0), (1, .int k)]) hx hb dX12_lose_23 rfl hl (by decide) rfl (fun ls hl => ?_)
    refine lv_aload_n hx hb dX12_lose_24 rfl (lv_at hl 1 rfl) ?_
    refine va_get (D := g.1) (ci := 12) (v := .ref (q 1)) (C := RX12) (T := TX12) (N := 66) hx hb hts hi_X12_lose_X12 hown hK hP 0 rfl rfl 1 (by decide) (hts (.fieldLink RX12 7 "OilPushModel" "sheetSize" "[I") (by decide +kernel)) (fun _ h => h) rfl dX12_lose_25 ?_
    refine lv_iload_n hx hb dX12_lose_28 rfl (lv_at hl 2 rfl) ?_
    refine lv_iconst (v := -1) hx hb dX12_lose_29 (by decide) ?_
    refine va_iast hx hb hK hP hD hS 1 0 rfl rfl (noSheet_in c1) dX12_lose_30 (fun H locs hP hD hS => ?_)
    have hP : va_P g.1 vwCl [(h0, .inr (12, (mF q))), ((q 1), .inl (g.2 0, 4, .inl (upd mSz (k.toNatClampNeg) (-1))))] H := hP
    have hD : va_D A [(h0, .inr (12, (mF q))), ((q 1), .inl (g.2 0, 4, .inl (upd mSz (k.toNatClampNeg) (-1))))] := hD
    refine lv_iload_n hx hb dX12_lose_31 rfl (lv_at hl 0 rfl) ?_
    exact retI C hS () (by unfold r_m_lose; rw [if_pos c1]) (hP.pick [] rfl) (hD.sub [] rfl rfl) (Nat.le_of_ble_eq_true rfl) (Nat.le_of_ble_eq_true rfl) dX12_lose_32
  refine lv_iconst (v := -1) hx hb dX12_lose_7 (by decide) ?_
  exact retI C hS () (by unfold r_m_lose; rw [if_neg c1]) (hP.pick [] rfl) (hD.sub [] rfl rfl) (Nat.le_of_ble_eq_true rfl) (Nat.le_of_ble_eq_true rfl) dX12_lose_8
def r_m_put (k : Int32) : Int32 := (if (r_c_noSheet k) = 0 then ((-10) - 1) else (-1))
set_option maxRecDepth 100000 in
set_option maxHeartbeats 4000000 in
theorem m_put (l : Launch) (g : Gt) (h0 : Nat) (q : Nat → Nat) (k : Int32) (i : Int32) (v : Int32)  : Ctr l g yX12_put wsX12_put ({ frames := 2, cells := 0, slots := 0, locals := 45 } : Room) [.ref h0, .int k, .int i, .int v] [(h0, .inr (12, (mF q))), ((q 1), .inl (g.2 0, 4, .inl mSz))] (fun A => QI g A (fun r (_ : Unit) => r = (r_m_put k)) (fun _u : Unit => [])) := by
  refine Ctr.of (cc := cX12_put) (maxL := 4) (ret := (some .int)) (by decide) rfl (Nat.le_of_ble_eq_true rfl) ?_
  intro p e s m below meth c A ls H C hP hD hA hS hl
  obtain ⟨hx, hb, hr, hts, hown, hlocks, hml, hin, hKN⟩ := id C
  have hK := hKN.1
  have hN := hKN.2
  have F : CallFix p m c cX12_put 4 s _ wsX12_put yX12_put.cls := ⟨hx, hb, hml, hown, hts⟩
  have hl : lv_has ls 4 [(0, .ref h0), (1, .int k), (2, .int i), (3, .int v)] := hl
  refine lv_iload_n hx hb dX12_put_0 rfl (lv_at hl 1 rfl) ?_
  refine pureIS (As := [.int k]) (rest := []) F (c_noSheet l k) 1 gX12_put_X12_noSheet rfl (by decide +kernel) rfl rfl ⟨(Nat.le_of_ble_eq_true rfl), (Nat.le_of_ble_eq_true rfl)⟩ (Nat.le_of_ble_eq_true rfl) (Nat.le_of_ble_eq_true rfl) rfl hl.1 rfl (Nat.le_of_ble_eq_true rfl) dX12_put_1 ?_
  refine lv_if_eq (tgt := 13) hx hb dX12_put_4 (by decide) (fun c1 => ?_) (fun c1 => ?_)
  · refine lv_aload_n hx hb dX12_put_13 rfl (lv_at hl 0 rfl) ?_
    refine lv_iload_n hx hb dX12_put_14 rfl (lv_at hl 1 rfl) ?_
    refine lv_iload_n hx hb dX12_put_15 rfl (lv_at hl 2 rfl) ?_
    refine callIV (As := [.int k, .int i]) (rest := []) (wr := []) (Cn := RX12) C (m_noCell l g h0 q k i (noSheet_in c1)) 2 gX12_put_X12_noCell rfl (by decide +kernel) ⟨(Nat.le_of_ble_eq_true rfl), (Nat.le_of_ble_eq_true rfl)⟩ [0, 1] [] hP hD hA hS rfl rfl rfl rfl (by decide) (k := 0) (ci := 12) rfl rfl rfl rfl hl.1 rfl (Nat.le_of_ble_eq_true rfl) dX12_put_16 ⟨(Nat.le_of_ble_eq_true rfl), (Nat.le_of_ble_eq_true rfl)⟩ (fun r _u H locs hw hP hD hS => ?_)
    have hP : va_P g.1 vwCl [(h0, .inr (12, (mF q))), ((q 1), .inl (g.2 0, 4, .inl mSz))] H := hP
    have hD : va_D A [(h0, .inr (12, (mF q))), ((q 1), .inl (g.2 0, 4, .inl mSz))] := hD
    subst hw
    refine lv_if_le (tgt := 33) hx hb dX12_put_19 (by decide) (fun cc0 => absurd cc0 (by decide)) (fun _ => ?_)
    refine lv_aload_n hx hb dX12_put_22 rfl (lv_at hl 0 rfl) ?_
    refine lv_aload_n hx hb dX12_put_23 rfl (lv_at hl 0 rfl) ?_
    refine lv_iload_n hx hb dX12_put_24 rfl (lv_at hl 1 rfl) ?_
    refine lv_iload_n hx hb dX12_put_25 rfl (lv_at hl 2 rfl) ?_
    refine callIV (As := [.int k, .int i]) (rest := [.ref h0]) (wr := []) (Cn := RX12) C (m_noCell l g h0 q k i (noSheet_in c1)) 2 gX12_put_X12_noCell rfl (by decide +kernel) ⟨(Nat.le_of_ble_eq_true rfl), (Nat.le_of_ble_eq_true rfl)⟩ [0, 1] [] hP hD hA hS rfl rfl rfl rfl (by decide) (k := 0) (ci := 12) rfl rfl rfl rfl hl.1 rfl (Nat.le_of_ble_eq_true rfl) dX12_put_26 ⟨(Nat.le_of_ble_eq_true rfl), (Nat.le_of_ble_eq_true rfl)⟩ (fun r _u H locs hw hP hD hS => ?_)
    have hP : va_P g.1 vwCl [(h0, .inr (12, (mF q))), ((q 1), .inl (g.2 0, 4, .inl mSz))] H := hP
    have hD : va_D A [(h0, .inr (12, (mF q))), ((q 1), .inl (g.2 0, 4, .inl mSz))] := hD
    subst hw
    refine callIV (As := [.int 1]) (rest := []) (wr := [((q 1), .inl (g.2 0, 4, .inl mSz))]) (Cn := RX12) C (m_failed l g h0 q 1) 1 gX12_put_X12_failed rfl (by decide +kernel) ⟨(Nat.le_of_ble_eq_true rfl), (Nat.le_of_ble_eq_true rfl)⟩ [0] [1] hP hD hA hS rfl rfl rfl rfl (by decide) (k := 0) (ci := 12) rfl rfl rfl rfl hl.1 rfl (Nat.le_of_ble_eq_true rfl) dX12_put_29 ⟨(Nat.le_of_ble_eq_true rfl), (Nat.le_of_ble_eq_true rfl)⟩ (fun r _u H locs hw hP hD hS => ?_)
    have hP : va_P g.1 vwCl [((q 1), .inl (g.2 0, 4, .inl mSz))] H := hP
    have hD : va_D A [((q 1), .inl (g.2 0, 4, .inl mSz))] := hD
    subst hw
    exact retI C hS () (by unfold r_m_put; rw [if_pos c1]) (hP.pick [] rfl) (hD.sub [] rfl rfl) (Nat.le_of_ble_eq_true rfl) (Nat.le_of_ble_eq_true rfl) dX12_put_32
  refine lv_aload_n hx hb dX12_put_7 rfl (lv_at hl 0 rfl) ?_
  refine lv_iconst (v := -1) hx hb dX12_put_8 (by decide) ?_
  refine callIV (As := [.int (-1)]) (rest := []) (wr := [((q 1), .inl (g.2 0, 4, .inl mSz))]) (Cn := RX12) C (m_refused l g h0 q (-1)) 1 gX12_put_X12_refused rfl (by decide +kernel) ⟨(Nat.le_of_ble_eq_true rfl), (Nat.le_of_ble_eq_true rfl)⟩ [0] [1] hP hD hA hS rfl rfl rfl rfl (by decide) (k := 0) (ci := 12) rfl rfl rfl rfl hl.1 rfl (Nat.le_of_ble_eq_true rfl) dX12_put_9 ⟨(Nat.le_of_ble_eq_true rfl), (Nat.le_of_ble_eq_true rfl)⟩ (fun r _u H locs hw hP hD hS => ?_)
  have hP : va_P g.1 vwCl [((q 1), .inl (g.2 0, 4, .inl mSz))] H := hP
  have hD : va_D A [((q 1), .inl (g.2 0, 4, .inl mSz))] := hD
  subst hw
  exact retI C hS () (by unfold r_m_put; rw [if_neg c1]) (hP.pick [] rfl) (hD.sub [] rfl rfl) (Nat.le_of_ble_eq_true rfl) (Nat.le_of_ble_eq_true rfl) dX12_put_12
theorem hi_X12_cell_X12 : ∀ w ∈ wsX120, w ∈ wsX12_cell := fun w h => List.mem_cons_of_mem _ (List.mem_append_right _ h)
set_option maxRecDepth 100000 in
set_option maxHeartbeats 4000000 in
theorem m_cell (l : Launch) (g : Gt) (h0 : Nat) (q : Nat → Nat) (k : Int32) (i : Int32) (lane : Int32)  : Ctr l g yX12_cell wsX12_cell ({ frames := 2, cells := 0, slots := 0, locals := 45 } : Room) [.ref h0, .int k, .int i, .int lane] [(h0, .inr (12, (mF q))), ((q 1), .inl (g.2 0, 4, .inl mSz))] (fun A => QL g A (fun r (_ : Unit) => r = (-9223372036854775808)) (fun _u : Unit => [])) := by
  refine Ctr.of (cc := cX12_cell) (maxL := 4) (ret := (some .long)) (by decide) rfl (Nat.le_of_ble_eq_true rfl) ?_
  intro p e s m below meth c A ls H C hP hD hA hS hl
  obtain ⟨hx, hb, hr, hts, hown, hlocks, hml, hin, hKN⟩ := id C
  have hK := hKN.1
  have hN := hKN.2
  have F : CallFix p m c cX12_cell 4 s _ wsX12_cell yX12_cell.cls := ⟨hx, hb, hml, hown, hts⟩
  have hl : lv_has ls 4 [(0, .ref h0), (1, .int k), (2, .int i), (3, .int lane)] := hl
  refine lv_aload_n hx hb dX12_cell_0 rfl (lv_at hl 0 rfl) ?_
  refine lv_iconst (v := 0) hx hb dX12_cell_1 (by decide) ?_
  refine va_put (D := g.1) (ci := 12) (v := .int 0) (ty := .int) (C := RX12) (T := TX12) (N := 66) hx hb hts hi_X12_cell_X12 tyX12 tyX12_ok nmX12 hown hK hP hD hS 0 rfl rfl 0 (by decide) (hts (.fieldLink RX12 141 "OilPushModel" "fault" "I") (by decide +kernel)) (fun _ h => h) rfl (by decide +kernel) rfl rfl (Nat.le_of_ble_eq_true rfl) dX12_cell_2 (fun H locs hP hD hS => ?_)
  have hP : va_P g.1 vwCl [(h0, .inr (12, (mF q))), ((q 1), .inl (g.2 0, 4, .inl mSz))] H := hP
  have hD : va_D A [(h0, .inr (12, (mF q))), ((q 1), .inl (g.2 0, 4, .inl mSz))] := hD
  refine lv_iload_n hx hb dX12_cell_5 rfl (lv_at hl 1 rfl) ?_
  refine pureIS (As := [.int k]) (rest := []) F (c_noSheet l k) 1 gX12_cell_X12_noSheet rfl (by decide +kernel) rfl rfl ⟨(Nat.le_of_ble_eq_true rfl), (Nat.le_of_ble_eq_true rfl)⟩ (Nat.le_of_ble_eq_true rfl) (Nat.le_of_ble_eq_true rfl) rfl hl.1 rfl (Nat.le_of_ble_eq_true rfl) dX12_cell_6 ?_
  refine lv_if_ne (tgt := 24) hx hb dX12_cell_9 (by decide) (fun c1 => ?_) (fun c1 => ?_)
  · refine pureLS (As := []) (rest := []) F (c_lost l) 0 gX12_cell_X12_lost rfl (by decide +kernel) rfl rfl ⟨(Nat.le_of_ble_eq_true rfl), (Nat.le_of_ble_eq_true rfl)⟩ (Nat.le_of_ble_eq_true rfl) (Nat.le_of_ble_eq_true rfl) rfl hl.1 rfl (Nat.le_of_ble_eq_true rfl) dX12_cell_24 ?_
    exact retL C hS () rfl (hP.pick [] rfl) (hD.sub [] rfl rfl) (Nat.le_of_ble_eq_true rfl) (Nat.le_of_ble_eq_true rfl) dX12_cell_27
  refine lv_iload_n hx hb dX12_cell_12 rfl (lv_at hl 3 rfl) ?_
  refine lv_i2l hx hb dX12_cell_13 rfl ?_
  refine lv_lconst (v := 0) hx hb dX12_cell_14 (by decide) ?_
  refine lv_ldc2 (v := 2) hx hb hown (hts (.constantLong RX12 162 (2)) (by decide +kernel)) dX12_cell_15 ?_
  refine pureIS (As := [.long (Int32.toInt64 lane), .long 0, .long 2]) (rest := []) F (c_in l (Int32.toInt64 lane) 0 2) 3 gX12_cell_X12_in rfl (by decide +kernel) rfl rfl ⟨(Nat.le_of_ble_eq_true rfl), (Nat.le_of_ble_eq_true rfl)⟩ (Nat.le_of_ble_eq_true rfl) (Nat.le_of_ble_eq_true rfl) rfl hl.1 rfl (Nat.le_of_ble_eq_true rfl) dX12_cell_18 ?_
  refine lv_if_ne (tgt := 28) hx hb dX12_cell_21 (by decide) (fun c2 => ?_) (fun c2 => ?_)
  · refine lv_aload_n hx hb dX12_cell_28 rfl (lv_at hl 0 rfl) ?_
    refine va_get (D := g.1) (ci := 12) (v := .ref (q 1)) (C := RX12) (T := TX12) (N := 66) hx hb hts hi_X12_cell_X12 hown hK hP 0 rfl rfl 1 (by decide) (hts (.fieldLink RX12 7 "OilPushModel" "sheetSize" "[I") (by decide +kernel)) (fun _ h => h) rfl dX12_cell_29 ?_
    refine lv_iload_n hx hb dX12_cell_32 rfl (lv_at hl 1 rfl) ?_
    refine va_iald hx hb hK hP 1 0 rfl rfl (noSheet_in c1) dX12_cell_33 ?_
    refine nx_i (v := (-1)) (mSz_at (noSheet_in c1)) ?_
    refine lv_if_lt (tgt := 53) hx hb dX12_cell_34 (by decide) (fun _ => ?_) (fun cc0 => absurd cc0 (by decide))
    refine lv_aload_n hx hb dX12_cell_53 rfl (lv_at hl 0 rfl) ?_
    refine lv_iload_n hx hb dX12_cell_54 rfl (lv_at hl 1 rfl) ?_
    refine lv_iload_n hx hb dX12_cell_55 rfl (lv_at hl 2 rfl) ?_
    refine callIV (As := [.int k, .int i]) (rest := []) (wr := []) (Cn := RX12) C (m_noCell l g h0 q k i (noSheet_in c1)) 2 gX12_cell_X12_noCell rfl (by decide +kernel) ⟨(Nat.le_of_ble_eq_true rfl), (Nat.le_of_ble_eq_true rfl)⟩ [0, 1] [] hP hD hA hS rfl rfl rfl rfl (by decide) (k := 0) (ci := 12) rfl rfl rfl rfl hl.1 rfl (Nat.le_of_ble_eq_true rfl) dX12_cell_56 ⟨(Nat.le_of_ble_eq_true rfl), (Nat.le_of_ble_eq_true rfl)⟩ (fun r _u H locs hw hP hD hS => ?_)
    have hP : va_P g.1 vwCl [(h0, .inr (12, (mF q))), ((q 1), .inl (g.2 0, 4, .inl mSz))] H := hP
    have hD : va_D A [(h0, .inr (12, (mF q))), ((q 1), .inl (g.2 0, 4, .inl mSz))] := hD
    subst hw
    refine lv_if_le (tgt := 75) hx hb dX12_cell_59 (by decide) (fun cc0 => absurd cc0 (by decide)) (fun _ => ?_)
    refine lv_aload_n hx hb dX12_cell_62 rfl (lv_at hl 0 rfl) ?_
    refine lv_aload_n hx hb dX12_cell_63 rfl (lv_at hl 0 rfl) ?_
    refine lv_iload_n hx hb dX12_cell_64 rfl (lv_at hl 1 rfl) ?_
    refine lv_iload_n hx hb dX12_cell_65 rfl (lv_at hl 2 rfl) ?_
    refine callIV (As := [.int k, .int i]) (rest := [.ref h0]) (wr := []) (Cn := RX12) C (m_noCell l g h0 q k i (noSheet_in c1)) 2 gX12_cell_X12_noCell rfl (by decide +kernel) ⟨(Nat.le_of_ble_eq_true rfl), (Nat.le_of_ble_eq_true rfl)⟩ [0, 1] [] hP hD hA hS rfl rfl rfl rfl (by decide) (k := 0) (ci := 12) rfl rfl rfl rfl hl.1 rfl (Nat.le_of_ble_eq_true rfl) dX12_cell_66 ⟨(Nat.le_of_ble_eq_true rfl), (Nat.le_of_ble_eq_true rfl)⟩ (fun r _u H locs hw hP hD hS => ?_)
    have hP : va_P g.1 vwCl [(h0, .inr (12, (mF q))), ((q 1), .inl (g.2 0, 4, .inl mSz))] H := hP
    have hD : va_D A [(h0, .inr (12, (mF q))), ((q 1), .inl (g.2 0, 4, .inl mSz))] := hD
    subst hw
    refine callLV (As := [.int 1]) (rest := []) (wr := [((q 1), .inl (g.2 0, 4, .inl mSz))]) (Cn := RX12) C (m_failedLong l g h0 q 1) 1 gX12_cell_X12_failedLong rfl (by decide +kernel) ⟨(Nat.le_of_ble_eq_true rfl), (Nat.le_of_ble_eq_true rfl)⟩ [0] [1] hP hD hA hS rfl rfl rfl rfl (by decide) (k := 0) (ci := 12) rfl rfl rfl rfl hl.1 rfl (Nat.le_of_ble_eq_true rfl) dX12_cell_69 ⟨(Nat.le_of_ble_eq_true rfl), (Nat.le_of_ble_eq_true rfl)⟩ (fun r _u H locs hw hP hD hS => ?_)
    have hP : va_P g.1 vwCl [((q 1), .inl (g.2 0, 4, .inl mSz))] H := hP
    have hD : va_D A [((q 1), .inl (g.2 0, 4, .inl mSz))] := hD
    subst hw
    refine lv_goto (tgt := 87) hx hb dX12_cell_72 (by decide) ?_
    exact retL C hS () rfl (hP.pick [] rfl) (hD.sub [] rfl rfl) (Nat.le_of_ble_eq_true rfl) (Nat.le_of_ble_eq_true rfl) dX12_cell_87
  refine pureLS (As := []) (rest := []) F (c_lost l) 0 gX12_cell_X12_lost rfl (by decide +kernel) rfl rfl ⟨(Nat.le_of_ble_eq_true rfl), (Nat.le_of_ble_eq_true rfl)⟩ (Nat.le_of_ble_eq_true rfl) (Nat.le_of_ble_eq_true rfl) rfl hl.1 rfl (Nat.le_of_ble_eq_true rfl) dX12_cell_24 ?_
  exact retL C hS () rfl (hP.pick [] rfl) (hD.sub [] rfl rfl) (Nat.le_of_ble_eq_true rfl) (Nat.le_of_ble_eq_true rfl) dX12_cell_27
theorem hi_X12_copy_X12 : ∀ w ∈ wsX120, w ∈ wsX12_copy := fun w h => List.mem_cons_of_mem _ (List.mem_append_right _ h)
def r_m_copy (k : Int32) (oth : Int32) : Int32 := (if (r_c_noSheet k) = 0 then (if (r_c_noSheet oth) = 0 then ((-10) - 1) else (-1)) else (-1))
set_option maxRecDepth 100000 in
set_option maxHeartbeats 4000000 in
theorem m_copy (l : Launch) (g : Gt) (h0 : Nat) (q : Nat → Nat) (k : Int32) (i : Int32) (oth : Int32) (j : Int32) (n : Int32)  : Ctr l g yX12_copy wsX12_copy ({ frames := 2, cells := 0, slots := 0, locals := 45 } : Room) [.ref h0, .int k, .int i, .int oth, .int j, .int n] [(h0, .inr (12, (mF q))), ((q 1), .inl (g.2 0, 4, .inl mSz))] (fun A => QI g A (fun r (_ : Unit) => r = (r_m_copy k oth)) (fun _u : Unit => [])) := by
  refine Ctr.of (cc := cX12_copy) (maxL := 7) (ret := (some .int)) (by decide) rfl (Nat.le_of_ble_eq_true rfl) ?_
  intro p e s m below meth c A ls H C hP hD hA hS hl
  obtain ⟨hx, hb, hr, hts, hown, hlocks, hml, hin, hKN⟩ := id C
  have hK := hKN.1
  have hN := hKN.2
  have F : CallFix p m c cX12_copy 7 s _ wsX12_copy yX12_copy.cls := ⟨hx, hb, hml, hown, hts⟩
  have hl : lv_has ls 7 [(0, .ref h0), (1, .int k), (2, .int i), (3, .int oth), (4, .int j), (5, .int n)] := hl
  refine lv_iload_n hx hb dX12_copy_0 rfl (lv_at hl 1 rfl) ?_
  refine pureIS (As := [.int k]) (rest := []) F (c_noSheet l k) 1 gX12_copy_X12_noSheet rfl (by decide +kernel) rfl rfl ⟨(Nat.le_of_ble_eq_true rfl), (Nat.le_of_ble_eq_true rfl)⟩ (Nat.le_of_ble_eq_true rfl) (Nat.le_of_ble_eq_true rfl) rfl hl.1 rfl (Nat.le_of_ble_eq_true rfl) dX12_copy_1 ?_
  refine lv_if_ne (tgt := 14) hx hb dX12_copy_4 (by decide) (fun c1 => ?_) (fun c1 => ?_)
  · refine lv_aload_n hx hb dX12_copy_14 rfl (lv_at hl 0 rfl) ?_
    refine lv_iconst (v := -1) hx hb dX12_copy_15 (by decide) ?_
    refine callIV (As := [.int (-1)]) (rest := []) (wr := [((q 1), .inl (g.2 0, 4, .inl mSz))]) (Cn := RX12) C (m_refused l g h0 q (-1)) 1 gX12_copy_X12_refused rfl (by decide +kernel) ⟨(Nat.le_of_ble_eq_true rfl), (Nat.le_of_ble_eq_true rfl)⟩ [0] [1] hP hD hA hS rfl rfl rfl rfl (by decide) (k := 0) (ci := 12) rfl rfl rfl rfl hl.1 rfl (Nat.le_of_ble_eq_true rfl) dX12_copy_16 ⟨(Nat.le_of_ble_eq_true rfl), (Nat.le_of_ble_eq_true rfl)⟩ (fun r _u H locs hw hP hD hS => ?_)
    have hP : va_P g.1 vwCl [((q 1), .inl (g.2 0, 4, .inl mSz))] H := hP
    have hD : va_D A [((q 1), .inl (g.2 0, 4, .inl mSz))] := hD
    subst hw
    exact retI C hS () (by unfold r_m_copy; rw [if_neg c1]) (hP.pick [] rfl) (hD.sub [] rfl rfl) (Nat.le_of_ble_eq_true rfl) (Nat.le_of_ble_eq_true rfl) dX12_copy_19
  refine lv_iload_n hx hb dX12_copy_7 rfl (lv_at hl 3 rfl) ?_
  refine pureIS (As := [.int oth]) (rest := []) F (c_noSheet l oth) 1 gX12_copy_X12_noSheet rfl (by decide +kernel) rfl rfl ⟨(Nat.le_of_ble_eq_true rfl), (Nat.le_of_ble_eq_true rfl)⟩ (Nat.le_of_ble_eq_true rfl) (Nat.le_of_ble_eq_true rfl) rfl hl.1 rfl (Nat.le_of_ble_eq_true rfl) dX12_copy_8 ?_
  refine lv_if_eq (tgt := 20) hx hb dX12_copy_11 (by decide) (fun c2 => ?_) (fun c2 => ?_)
  · refine lv_aload_n hx hb dX12_copy_20 rfl (lv_at hl 0 rfl) ?_
    refine va_get (D := g.1) (ci := 12) (v := .ref (q 1)) (C := RX12) (T := TX12) (N := 66) hx hb hts hi_X12_copy_X12 hown hK hP 0 rfl rfl 1 (by decide) (hts (.fieldLink RX12 7 "OilPushModel" "sheetSize" "[I") (by decide +kernel)) (fun _ h => h) rfl dX12_copy_21 ?_
    refine lv_iload_n hx hb dX12_copy_24 rfl (lv_at hl 1 rfl) ?_
    refine va_iald hx hb hK hP 1 0 rfl rfl (noSheet_in c1) dX12_copy_25 ?_
    refine nx_i (v := (-1)) (mSz_at (noSheet_in c1)) ?_
    refine lv_if_lt (tgt := 38) hx hb dX12_copy_26 (by decide) (fun _ => ?_) (fun cc0 => absurd cc0 (by decide))
    refine lv_aload_n hx hb dX12_copy_38 rfl (lv_at hl 0 rfl) ?_
    refine lv_iconst (v := 1) hx hb dX12_copy_39 (by decide) ?_
    refine callIV (As := [.int 1]) (rest := []) (wr := [((q 1), .inl (g.2 0, 4, .inl mSz))]) (Cn := RX12) C (m_failed l g h0 q 1) 1 gX12_copy_X12_failed rfl (by decide +kernel) ⟨(Nat.le_of_ble_eq_true rfl), (Nat.le_of_ble_eq_true rfl)⟩ [0] [1] hP hD hA hS rfl rfl rfl rfl (by decide) (k := 0) (ci := 12) rfl rfl rfl rfl hl.1 rfl (Nat.le_of_ble_eq_true rfl) dX12_copy_40 ⟨(Nat.le_of_ble_eq_true rfl), (Nat.le_of_ble_eq_true rfl)⟩ (fun r _u H locs hw hP hD hS => ?_)
    have hP : va_P g.1 vwCl [((q 1), .inl (g.2 0, 4, .inl mSz))] H := hP
    have hD : va_D A [((q 1), .inl (g.2 0, 4, .inl mSz))] := hD
    subst hw
    exact retI C hS () (by unfold r_m_copy; rw [if_pos c1, if_pos c2]) (hP.pick [] rfl) (hD.sub [] rfl rfl) (Nat.le_of_ble_eq_true rfl) (Nat.le_of_ble_eq_true rfl) dX12_copy_43
  refine lv_aload_n hx hb dX12_copy_14 rfl (lv_at hl 0 rfl) ?_
  refine lv_iconst (v := -1) hx hb dX12_copy_15 (by decide) ?_
  refine callIV (As := [.int (-1)]) (rest := []) (wr := [((q 1), .inl (g.2 0, 4, .inl mSz))]) (Cn := RX12) C (m_refused l g h0 q (-1)) 1 gX12_copy_X12_refused rfl (by decide +kernel) ⟨(Nat.le_of_ble_eq_true rfl), (Nat.le_of_ble_eq_true rfl)⟩ [0] [1] hP hD hA hS rfl rfl rfl rfl (by decide) (k := 0) (ci := 12) rfl rfl rfl rfl hl.1 rfl (Nat.le_of_ble_eq_true rfl) dX12_copy_16 ⟨(Nat.le_of_ble_eq_true rfl), (Nat.le_of_ble_eq_true rfl)⟩ (fun r _u H locs hw hP hD hS => ?_)
  have hP : va_P g.1 vwCl [((q 1), .inl (g.2 0, 4, .inl mSz))] H := hP
  have hD : va_D A [((q 1), .inl (g.2 0, 4, .inl mSz))] := hD
  subst hw
  exact retI C hS () (by unfold r_m_copy; rw [if_pos c1, if_neg c2]) (hP.pick [] rfl) (hD.sub [] rfl rfl) (Nat.le_of_ble_eq_true rfl) (Nat.le_of_ble_eq_true rfl) dX12_copy_19
theorem hi_X12_trace_X12 : ∀ w ∈ wsX120, w ∈ wsX12_trace := fun w h => List.mem_cons_of_mem _ (List.mem_append_right _ h)
set_option maxRecDepth 100000 in
set_option maxHeartbeats 4000000 in
theorem m_trace (l : Launch) (g : Gt) (h0 : Nat) (q : Nat → Nat)  : Ctr l g yX12_trace wsX12_trace ({ frames := 0, cells := 0, slots := 0, locals := 0 } : Room) [.ref h0] [(h0, .inr (12, (mF q)))] (fun A => QI g A (fun r (_ : Unit) => r = 0) (fun _u : Unit => [])) := by
  refine Ctr.of (cc := cX12_trace) (maxL := 1) (ret := (some .int)) (by decide) rfl (Nat.le_of_ble_eq_true rfl) ?_
  intro p e s m below meth c A ls H C hP hD hA hS hl
  obtain ⟨hx, hb, hr, hts, hown, hlocks, hml, hin, hKN⟩ := id C
  have hK := hKN.1
  have hN := hKN.2
  have F : CallFix p m c cX12_trace 1 s _ wsX12_trace yX12_trace.cls := ⟨hx, hb, hml, hown, hts⟩
  have hl : lv_has ls 1 [(0, .ref h0)] := hl
  refine lv_aload_n hx hb dX12_trace_0 rfl (lv_at hl 0 rfl) ?_
  refine va_get (D := g.1) (ci := 12) (v := .int 0) (C := RX12) (T := TX12) (N := 66) hx hb hts hi_X12_trace_X12 hown hK hP 0 rfl rfl 65 (by decide) (hts (.fieldLink RX12 313 "OilPushModel" "trace" "I") (by decide +kernel)) (fun _ h => h) rfl dX12_trace_1 ?_
  exact retI C hS () rfl (hP.pick [] rfl) (hD.sub [] rfl rfl) (Nat.le_of_ble_eq_true rfl) (Nat.le_of_ble_eq_true rfl) dX12_trace_4
theorem hi_X12_fault_X12 : ∀ w ∈ wsX120, w ∈ wsX12_fault := fun w h => List.mem_cons_of_mem _ (List.mem_append_right _ h)
set_option maxRecDepth 100000 in
set_option maxHeartbeats 4000000 in
theorem m_fault (l : Launch) (g : Gt) (h0 : Nat) (q : Nat → Nat)  : Ctr l g yX12_fault wsX12_fault ({ frames := 0, cells := 0, slots := 0, locals := 0 } : Room) [.ref h0] [(h0, .inr (12, (mF q)))] (fun A => QI g A (fun r (_ : Unit) => r = 0) (fun _u : Unit => [])) := by
  refine Ctr.of (cc := cX12_fault) (maxL := 1) (ret := (some .int)) (by decide) rfl (Nat.le_of_ble_eq_true rfl) ?_
  intro p e s m below meth c A ls H C hP hD hA hS hl
  obtain ⟨hx, hb, hr, hts, hown, hlocks, hml, hin, hKN⟩ := id C
  have hK := hKN.1
  have hN := hKN.2
  have F : CallFix p m c cX12_fault 1 s _ wsX12_fault yX12_fault.cls := ⟨hx, hb, hml, hown, hts⟩
  have hl : lv_has ls 1 [(0, .ref h0)] := hl
  refine lv_aload_n hx hb dX12_fault_0 rfl (lv_at hl 0 rfl) ?_
  refine va_get (D := g.1) (ci := 12) (v := .int 0) (C := RX12) (T := TX12) (N := 66) hx hb hts hi_X12_fault_X12 hown hK hP 0 rfl rfl 0 (by decide) (hts (.fieldLink RX12 141 "OilPushModel" "fault" "I") (by decide +kernel)) (fun _ h => h) rfl dX12_fault_1 ?_
  exact retI C hS () rfl (hP.pick [] rfl) (hD.sub [] rfl rfl) (Nat.le_of_ble_eq_true rfl) (Nat.le_of_ble_eq_true rfl) dX12_fault_4
theorem hi_X12_told_X12 : ∀ w ∈ wsX120, w ∈ wsX12_told := fun w h => List.mem_cons_of_mem _ (List.mem_append_right _ h)
def r_m_told (what : Int32) : Int32 := (if what = 0 then 0 else (if what = 1 then 0 else (if what = 2 then 0 else (if what = 3 then 0 else (if what = 4 then 0 else (if what = 5 then 0 else (-2)))))))
set_option maxRecDepth 100000 in
set_option maxHeartbeats 4000000 in
theorem m_told (l : Launch) (g : Gt) (h0 : Nat) (q : Nat → Nat) (what : Int32)  : Ctr l g yX12_told wsX12_told ({ frames := 0, cells := 0, slots := 0, locals := 0 } : Room) [.ref h0, .int what] [(h0, .inr (12, (mF q)))] (fun A => QI g A (fun r (_ : Unit) => r = (r_m_told what)) (fun _u : Unit => [])) := by
  refine Ctr.of (cc := cX12_told) (maxL := 4) (ret := (some .int)) (by decide) rfl (Nat.le_of_ble_eq_true rfl) ?_
  intro p e s m below meth c A ls H C hP hD hA hS hl
  obtain ⟨hx, hb, hr, hts, hown, hlocks, hml, hin, hKN⟩ := id C
  have hK := hKN.1
  have hN := hKN.2
  have F : CallFix p m c cX12_told 4 s _ wsX12_told yX12_told.cls := ⟨hx, hb, hml, hown, hts⟩
  have hl : lv_has ls 4 [(0, .ref h0), (1, .int what)] := hl
  refine lv_iconst (v := 0) hx hb dX12_told_0 (by decide) ?_
  refine lv_istore_n (lv' := [(2, .int 0), (0, .ref h0), (1, .int what)]) hx hb dX12_told_1 rfl hl (by decide) rfl (fun ls hl => ?_)
  refine lv_iconst (v := 0) hx hb dX12_told_2 (by decide) ?_
  refine lv_istore_n (lv' := [(3, .int 0), (2, .int 0), (0, .ref h0), (1, .int what)]) hx hb dX12_told_3 rfl hl (by decide) rfl (fun ls hl => ?_)
  refine lv_iload_n hx hb dX12_told_4 rfl (lv_at hl 0 rfl) ?_
  refine lv_aload_n hx hb dX12_told_5 rfl (lv_at hl 2 rfl) ?_
  refine va_get (D := g.1) (ci := 12) (v := .int 0) (C := RX12) (T := TX12) (N := 66) hx hb hts hi_X12_told_X12 hown hK hP 0 rfl rfl 7 (by decide) (hts (.fieldLink RX12 179 "OilPushModel" "cylinders" "I") (by decide +kernel)) (fun _ h => h) rfl dX12_told_6 ?_
  refine lv_icmp_ge (tgt := 59) hx hb dX12_told_9 (by decide) (fun _ => ?_) (fun cc0 => absurd cc0 (by decide))
  refine lv_iload_n hx hb dX12_told_59 rfl (lv_at hl 3 rfl) ?_
  by_cases w1 : what = 0
  · refine lv_tableIn (tgt := 100) (off := 40) hx hb dX12_told_60 (by rw [w1]; decide) (by rw [w1]; decide) (by rw [w1]; rfl) (by decide) ?_
    refine lv_aload_n hx hb dX12_told_100 rfl (lv_at hl 2 rfl) ?_
    refine va_get (D := g.1) (ci := 12) (v := .int 0) (C := RX12) (T := TX12) (N := 66) hx hb hts hi_X12_told_X12 hown hK hP 0 rfl rfl 7 (by decide) (hts (.fieldLink RX12 179 "OilPushModel" "cylinders" "I") (by decide +kernel)) (fun _ h => h) rfl dX12_told_101 ?_
    exact retI C hS () (by unfold r_m_told; rw [if_pos w1]) (hP.pick [] rfl) (hD.sub [] rfl rfl) (Nat.le_of_ble_eq_true rfl) (Nat.le_of_ble_eq_true rfl) dX12_told_104
  by_cases w2 : what = 1
  · refine lv_tableIn (tgt := 105) (off := 45) hx hb dX12_told_60 (by rw [w2]; decide) (by rw [w2]; decide) (by rw [w2]; rfl) (by decide) ?_
    refine lv_aload_n hx hb dX12_told_105 rfl (lv_at hl 2 rfl) ?_
    refine va_get (D := g.1) (ci := 12) (v := .int 0) (C := RX12) (T := TX12) (N := 66) hx hb hts hi_X12_told_X12 hown hK hP 0 rfl rfl 24 (by decide) (hts (.fieldLink RX12 221 "OilPushModel" "orders" "I") (by decide +kernel)) (fun _ h => h) rfl dX12_told_106 ?_
    exact retI C hS () (by unfold r_m_told; rw [if_neg w1, if_pos w2]) (hP.pick [] rfl) (hD.sub [] rfl rfl) (Nat.le_of_ble_eq_true rfl) (Nat.le_of_ble_eq_true rfl) dX12_told_109
  by_cases w3 : what = 2
  · refine lv_tableIn (tgt := 110) (off := 50) hx hb dX12_told_60 (by rw [w3]; decide) (by rw [w3]; decide) (by rw [w3]; rfl) (by decide) ?_
    refine lv_aload_n hx hb dX12_told_110 rfl (lv_at hl 2 rfl) ?_
    refine va_get (D := g.1) (ci := 12) (v := .int 0) (C := RX12) (T := TX12) (N := 66) hx hb hts hi_X12_told_X12 hown hK hP 0 rfl rfl 52 (by decide) (hts (.fieldLink RX12 291 "OilPushModel" "readings" "I") (by decide +kernel)) (fun _ h => h) rfl dX12_told_111 ?_
    exact retI C hS () (by unfold r_m_told; rw [if_neg w1, if_neg w2, if_pos w3]) (hP.pick [] rfl) (hD.sub [] rfl rfl) (Nat.le_of_ble_eq_true rfl) (Nat.le_of_ble_eq_true rfl) dX12_told_114
  by_cases w4 : what = 3
  · refine lv_tableIn (tgt := 115) (off := 55) hx hb dX12_told_60 (by rw [w4]; decide) (by rw [w4]; decide) (by rw [w4]; rfl) (by decide) ?_
    refine lv_aload_n hx hb dX12_told_115 rfl (lv_at hl 2 rfl) ?_
    refine va_get (D := g.1) (ci := 12) (v := .int 0) (C := RX12) (T := TX12) (N := 66) hx hb hts hi_X12_told_X12 hown hK hP 0 rfl rfl 30 (by decide) (hts (.fieldLink RX12 136 "OilPushModel" "sinceStart" "I") (by decide +kernel)) (fun _ h => h) rfl dX12_told_116 ?_
    exact retI C hS () (by unfold r_m_told; rw [if_neg w1, if_neg w2, if_neg w3, if_pos w4]) (hP.pick [] rfl) (hD.sub [] rfl rfl) (Nat.le_of_ble_eq_true rfl) (Nat.le_of_ble_eq_true rfl) dX12_told_119
  by_cases w5 : what = 4
  · refine lv_tableIn (tgt := 120) (off := 60) hx hb dX12_told_60 (by rw [w5]; decide) (by rw [w5]; decide) (by rw [w5]; rfl) (by decide) ?_
    refine lv_iload_n hx hb dX12_told_120 rfl (lv_at hl 1 rfl) ?_
    exact retI C hS () (by unfold r_m_told; rw [if_neg w1, if_neg w2, if_neg w3, if_neg w4, if_pos w5]) (hP.pick [] rfl) (hD.sub [] rfl rfl) (Nat.le_of_ble_eq_true rfl) (Nat.le_of_ble_eq_true rfl) dX12_told_121
  by_cases w6 : what = 5
  · refine lv_tableIn (tgt := 120) (off := 60) hx hb dX12_told_60 (by rw [w6]; decide) (by rw [w6]; decide) (by rw [w6]; rfl) (by decide) ?_
    refine lv_iload_n hx hb dX12_told_120 rfl (lv_at hl 1 rfl) ?_
    exact retI C hS () (by unfold r_m_told; rw [if_neg w1, if_neg w2, if_neg w3, if_neg w4, if_neg w5, if_pos w6]) (hP.pick [] rfl) (hD.sub [] rfl rfl) (Nat.le_of_ble_eq_true rfl) (Nat.le_of_ble_eq_true rfl) dX12_told_121
  refine lv_tableOut (tgt := 122) hx hb dX12_told_60 (sw5 w1 w2 w3 w4 w5 w6) (by decide) ?_
  refine lv_bipush (v := -2) hx hb dX12_told_122 (by decide) ?_
  exact retI C hS () (by unfold r_m_told; rw [if_neg w1, if_neg w2, if_neg w3, if_neg w4, if_neg w5, if_neg w6]) (hP.pick [] rfl) (hD.sub [] rfl rfl) (Nat.le_of_ble_eq_true rfl) (Nat.le_of_ble_eq_true rfl) dX12_told_124
set_option maxRecDepth 100000 in
set_option maxHeartbeats 4000000 in
theorem m_storePb (l : Launch) (g : Gt) (h0 : Nat) (q : Nat → Nat) (b : Int32)  : Ctr l g yX12_storePressure wsX12_storePressure ({ frames := 0, cells := 0, slots := 0, locals := 0 } : Room) [.ref h0] [(h0, .inr (12, ((mF q).set 31 (.int b))))] (fun A => QI g A (fun r (_ : Unit) => r = 0) (fun _u : Unit => [(h0, .inr (12, ((mF q).set 31 (.int b))))])) := by
  refine Ctr.of (cc := cX12_storePressure) (maxL := 1) (ret := (some .int)) (by decide) rfl (Nat.le_of_ble_eq_true rfl) ?_
  intro p e s m below meth c A ls H C hP hD hA hS hl
  obtain ⟨hx, hb, hr, hts, hown, hlocks, hml, hin, hKN⟩ := id C
  have hK := hKN.1
  have hN := hKN.2
  have F : CallFix p m c cX12_storePressure 1 s _ wsX12_storePressure yX12_storePressure.cls := ⟨hx, hb, hml, hown, hts⟩
  have hl : lv_has ls 1 [(0, .ref h0)] := hl
  refine lv_aload_n hx hb dX12_storePressure_0 rfl (lv_at hl 0 rfl) ?_
  refine va_get (D := g.1) (ci := 12) (v := .int 0) (C := RX12) (T := TX12) (N := 66) hx hb hts hi_X12_storePressure_X12 hown hK hP 0 rfl rfl 21 (by decide) (hts (.fieldLink RX12 209 "OilPushModel" "first" "I") (by decide +kernel)) (fun _ h => h) rfl dX12_storePressure_1 ?_
  refine lv_aload_n hx hb dX12_storePressure_4 rfl (lv_at hl 0 rfl) ?_
  refine va_get (D := g.1) (ci := 12) (v := .int 0) (C := RX12) (T := TX12) (N := 66) hx hb hts hi_X12_storePressure_X12 hown hK hP 0 rfl rfl 23 (by decide) (hts (.fieldLink RX12 203 "OilPushModel" "kept" "I") (by decide +kernel)) (fun _ h => h) rfl dX12_storePressure_5 ?_
  refine lv_aload_n hx hb dX12_storePressure_8 rfl (lv_at hl 0 rfl) ?_
  refine va_get (D := g.1) (ci := 12) (v := .int 1) (C := RX12) (T := TX12) (N := 66) hx hb hts hi_X12_storePressure_X12 hown hK hP 0 rfl rfl 22 (by decide) (hts (.fieldLink RX12 133 "OilPushModel" "stiff" "I") (by decide +kernel)) (fun _ h => h) rfl dX12_storePressure_9 ?_
  refine lv_idiv hx hb dX12_storePressure_12 (by decide) ?_
  refine nx_i (v := 0) (by decide) ?_
  refine lv_iadd hx hb dX12_storePressure_13 ?_
  refine nx_i (v := 0) (by decide) ?_
  exact retI C hS () rfl (hP.pick [0] rfl) (hD.sub [0] rfl rfl) (Nat.le_of_ble_eq_true rfl) (Nat.le_of_ble_eq_true rfl) dX12_storePressure_14
theorem hi_X12_loseAll_X12 : ∀ w ∈ wsX120, w ∈ wsX12_loseAll := fun w h => List.mem_cons_of_mem _ (List.mem_append_right _ h)
set_option maxRecDepth 100000 in
set_option maxHeartbeats 4000000 in
theorem m_loseAll (l : Launch) (g : Gt) (h0 : Nat) (q : Nat → Nat) (b : Int32)  : Ctr l g yX12_loseAll wsX12_loseAll ({ frames := 0, cells := 0, slots := 0, locals := 0 } : Room) [.ref h0] [(h0, .inr (12, ((mF q).set 31 (.int b))))] (fun A => QV g A (fun _ : Unit => () = ()) (fun _u : Unit => [(h0, .inr (12, ((mF q).set 31 (.int b))))])) := by
  refine Ctr.of (cc := cX12_loseAll) (maxL := 2) (ret := none) (by decide) rfl (Nat.le_of_ble_eq_true rfl) ?_
  intro p e s m below meth c A ls H C hP hD hA hS hl
  obtain ⟨hx, hb, hr, hts, hown, hlocks, hml, hin, hKN⟩ := id C
  have hK := hKN.1
  have hN := hKN.2
  have F : CallFix p m c cX12_loseAll 2 s _ wsX12_loseAll yX12_loseAll.cls := ⟨hx, hb, hml, hown, hts⟩
  have hl : lv_has ls 2 [(0, .ref h0)] := hl
  refine lv_iconst (v := 0) hx hb dX12_loseAll_0 (by decide) ?_
  refine lv_istore_n (lv' := [(1, .int 0), (0, .ref h0)]) hx hb dX12_loseAll_1 rfl hl (by decide) rfl (fun ls hl => ?_)
  refine lv_iload_n hx hb dX12_loseAll_2 rfl (lv_at hl 0 rfl) ?_
  refine lv_aload_n hx hb dX12_loseAll_3 rfl (lv_at hl 1 rfl) ?_
  refine va_get (D := g.1) (ci := 12) (v := .int 0) (C := RX12) (T := TX12) (N := 66) hx hb hts hi_X12_loseAll_X12 hown hK hP 0 rfl rfl 7 (by decide) (hts (.fieldLink RX12 179 "OilPushModel" "cylinders" "I") (by decide +kernel)) (fun _ h => h) rfl dX12_loseAll_4 ?_
  refine lv_icmp_ge (tgt := 120) hx hb dX12_loseAll_7 (by decide) (fun _ => ?_) (fun cc0 => absurd cc0 (by decide))
  exact retV C hS () rfl (hP.pick [0] rfl) (hD.sub [0] rfl rfl) (Nat.le_of_ble_eq_true rfl) (Nat.le_of_ble_eq_true rfl) dX12_loseAll_120
theorem hi_X12_findMoving_X12 : ∀ w ∈ wsX120, w ∈ wsX12_findMoving := fun w h => List.mem_cons_of_mem _ (List.mem_append_right _ h)
set_option maxRecDepth 100000 in
set_option maxHeartbeats 4000000 in
theorem m_findMoving (l : Launch) (g : Gt) (h0 : Nat) (q : Nat → Nat) (b : Int32)  : Ctr l g yX12_findMoving wsX12_findMoving ({ frames := 0, cells := 0, slots := 0, locals := 0 } : Room) [.ref h0] [(h0, .inr (12, ((mF q).set 31 (.int b))))] (fun A => QV g A (fun _ : Unit => () = ()) (fun _u : Unit => [(h0, .inr (12, ((mF q).set 31 (.int b))))])) := by
  refine Ctr.of (cc := cX12_findMoving) (maxL := 3) (ret := none) (by decide) rfl (Nat.le_of_ble_eq_true rfl) ?_
  intro p e s m below meth c A ls H C hP hD hA hS hl
  obtain ⟨hx, hb, hr, hts, hown, hlocks, hml, hin, hKN⟩ := id C
  have hK := hKN.1
  have hN := hKN.2
  have F : CallFix p m c cX12_findMoving 3 s _ wsX12_findMoving yX12_findMoving.cls := ⟨hx, hb, hml, hown, hts⟩
  have hl : lv_has ls 3 [(0, .ref h0)] := hl
  refine lv_aload_n hx hb dX12_findMoving_0 rfl (lv_at hl 0 rfl) ?_
  refine lv_iconst (v := 0) hx hb dX12_findMoving_1 (by decide) ?_
  refine va_put (D := g.1) (ci := 12) (v := .int 0) (ty := .int) (C := RX12) (T := TX12) (N := 66) hx hb hts hi_X12_findMoving_X12 tyX12 tyX12_ok nmX12 hown hK hP hD hS 0 rfl rfl 40 (by decide) (hts (.fieldLink RX12 231 "OilPushModel" "moving" "I") (by decide +kernel)) (fun _ h => h) rfl (by decide +kernel) rfl rfl (Nat.le_of_ble_eq_true rfl) dX12_findMoving_2 (fun H locs hP hD hS => ?_)
  have hP : va_P g.1 vwCl [(h0, .inr (12, ((mF q).set 31 (.int b))))] H := hP
  have hD : va_D A [(h0, .inr (12, ((mF q).set 31 (.int b))))] := hD
  refine lv_iconst (v := 0) hx hb dX12_findMoving_5 (by decide) ?_
  refine lv_istore_n (lv' := [(1, .int 0), (0, .ref h0)]) hx hb dX12_findMoving_6 rfl hl (by decide) rfl (fun ls hl => ?_)
  refine lv_iload_n hx hb dX12_findMoving_7 rfl (lv_at hl 0 rfl) ?_
  refine lv_aload_n hx hb dX12_findMoving_8 rfl (lv_at hl 1 rfl) ?_
  refine va_get (D := g.1) (ci := 12) (v := .int 0) (C := RX12) (T := TX12) (N := 66) hx hb hts hi_X12_findMoving_X12 hown hK hP 0 rfl rfl 7 (by decide) (hts (.fieldLink RX12 179 "OilPushModel" "cylinders" "I") (by decide +kernel)) (fun _ h => h) rfl dX12_findMoving_9 ?_
  refine lv_icmp_ge (tgt := 180) hx hb dX12_findMoving_12 (by decide) (fun _ => ?_) (fun cc0 => absurd cc0 (by decide))
  exact retV C hS () rfl (hP.pick [0] rfl) (hD.sub [0] rfl rfl) (Nat.le_of_ble_eq_true rfl) (Nat.le_of_ble_eq_true rfl) dX12_findMoving_180
theorem hi_X12_tickOnce_X12 : ∀ w ∈ wsX120, w ∈ wsX12_tickOnce := fun w h => List.mem_cons_of_mem _ (List.mem_append_right _ h)
set_option maxRecDepth 100000 in
set_option maxHeartbeats 4000000 in
theorem m_tickOnce (l : Launch) (g : Gt) (h0 : Nat) (q : Nat → Nat) (b : Int32)  : Ctr l g yX12_tickOnce wsX12_tickOnce ({ frames := 1, cells := 0, slots := 0, locals := 22 } : Room) [.ref h0] [(h0, .inr (12, ((mF q).set 31 (.int b))))] (fun A => QV g A (fun _ : Unit => () = ()) (fun _u : Unit => [(h0, .inr (12, ((mF q).set 31 (.int 1))))])) := by
  refine Ctr.of (cc := cX12_tickOnce) (maxL := 7) (ret := none) (by decide) rfl (Nat.le_of_ble_eq_true rfl) ?_
  intro p e s m below meth c A ls H C hP hD hA hS hl
  obtain ⟨hx, hb, hr, hts, hown, hlocks, hml, hin, hKN⟩ := id C
  have hK := hKN.1
  have hN := hKN.2
  have F : CallFix p m c cX12_tickOnce 7 s _ wsX12_tickOnce yX12_tickOnce.cls := ⟨hx, hb, hml, hown, hts⟩
  have hl : lv_has ls 7 [(0, .ref h0)] := hl
  refine lv_aload_n hx hb dX12_tickOnce_0 rfl (lv_at hl 0 rfl) ?_
  refine va_get (D := g.1) (ci := 12) (v := .int 0) (C := RX12) (T := TX12) (N := 66) hx hb hts hi_X12_tickOnce_X12 hown hK hP 0 rfl rfl 29 (by decide) (hts (.fieldLink RX12 224 "OilPushModel" "waiting" "I") (by decide +kernel)) (fun _ h => h) rfl dX12_tickOnce_1 ?_
  refine lv_aload_n hx hb dX12_tickOnce_4 rfl (lv_at hl 0 rfl) ?_
  refine va_get (D := g.1) (ci := 12) (v := .int 0) (C := RX12) (T := TX12) (N := 66) hx hb hts hi_X12_tickOnce_X12 hown hK hP 0 rfl rfl 24 (by decide) (hts (.fieldLink RX12 221 "OilPushModel" "orders" "I") (by decide +kernel)) (fun _ h => h) rfl dX12_tickOnce_5 ?_
  refine lv_icmp_ge (tgt := 58) hx hb dX12_tickOnce_8 (by decide) (fun _ => ?_) (fun cc0 => absurd cc0 (by decide))
  refine lv_aload_n hx hb dX12_tickOnce_58 rfl (lv_at hl 0 rfl) ?_
  refine callVV (As := []) (rest := []) (wr := []) (Cn := RX12) C (m_loseAll l g h0 q b) 0 gX12_tickOnce_X12_loseAll rfl (by decide +kernel) ⟨(Nat.le_of_ble_eq_true rfl), (Nat.le_of_ble_eq_true rfl)⟩ [0] [] hP hD hA hS rfl rfl rfl rfl (by decide) (k := 0) (ci := 12) rfl rfl rfl rfl hl.1 rfl (Nat.le_of_ble_eq_true rfl) dX12_tickOnce_59 ⟨(Nat.le_of_ble_eq_true rfl), (Nat.le_of_ble_eq_true rfl)⟩ (fun _u H locs hw hP hD hS => ?_)
  have hP : va_P g.1 vwCl [(h0, .inr (12, ((mF q).set 31 (.int b))))] H := hP
  have hD : va_D A [(h0, .inr (12, ((mF q).set 31 (.int b))))] := hD
  refine lv_aload_n hx hb dX12_tickOnce_62 rfl (lv_at hl 0 rfl) ?_
  refine callVV (As := []) (rest := []) (wr := []) (Cn := RX12) C (m_findMoving l g h0 q b) 0 gX12_tickOnce_X12_findMoving rfl (by decide +kernel) ⟨(Nat.le_of_ble_eq_true rfl), (Nat.le_of_ble_eq_true rfl)⟩ [0] [] hP hD hA hS rfl rfl rfl rfl (by decide) (k := 0) (ci := 12) rfl rfl rfl rfl hl.1 rfl (Nat.le_of_ble_eq_true rfl) dX12_tickOnce_63 ⟨(Nat.le_of_ble_eq_true rfl), (Nat.le_of_ble_eq_true rfl)⟩ (fun _u H locs hw hP hD hS => ?_)
  have hP : va_P g.1 vwCl [(h0, .inr (12, ((mF q).set 31 (.int b))))] H := hP
  have hD : va_D A [(h0, .inr (12, ((mF q).set 31 (.int b))))] := hD
  refine lv_aload_n hx hb dX12_tickOnce_66 rfl (lv_at hl 0 rfl) ?_
  refine va_get (D := g.1) (ci := 12) (v := .int 0) (C := RX12) (T := TX12) (N := 66) hx hb hts hi_X12_tickOnce_X12 hown hK hP 0 rfl rfl 5 (by decide) (hts (.fieldLink RX12 184 "OilPushModel" "gives" "I") (by decide +kernel)) (fun _ h => h) rfl dX12_tickOnce_67 ?_
  refine lv_istore_n (lv' := [(1, .int 0), (0, .ref h0)]) hx hb dX12_tickOnce_70 rfl hl (by decide) rfl (fun ls hl => ?_)
  refine lv_aload_n hx hb dX12_tickOnce_71 rfl (lv_at hl 1 rfl) ?_
  refine lv_iconst (v := 0) hx hb dX12_tickOnce_72 (by decide) ?_
  refine va_put (D := g.1) (ci := 12) (v := .int 0) (ty := .int) (C := RX12) (T := TX12) (N := 66) hx hb hts hi_X12_tickOnce_X12 tyX12 tyX12_ok nmX12 hown hK hP hD hS 0 rfl rfl 32 (by decide) (hts (.fieldLink RX12 243 "OilPushModel" "pressure" "I") (by decide +kernel)) (fun _ h => h) rfl (by decide +kernel) rfl rfl (Nat.le_of_ble_eq_true rfl) dX12_tickOnce_73 (fun H locs hP hD hS => ?_)
  have hP : va_P g.1 vwCl [(h0, .inr (12, ((mF q).set 31 (.int b))))] H := hP
  have hD : va_D A [(h0, .inr (12, ((mF q).set 31 (.int b))))] := hD
  refine lv_aload_n hx hb dX12_tickOnce_76 rfl (lv_at hl 1 rfl) ?_
  refine lv_iconst (v := 0) hx hb dX12_tickOnce_77 (by decide) ?_
  refine va_put (D := g.1) (ci := 12) (v := .int 0) (ty := .int) (C := RX12) (T := TX12) (N := 66) hx hb hts hi_X12_tickOnce_X12 tyX12 tyX12_ok nmX12 hown hK hP hD hS 0 rfl rfl 35 (by decide) (hts (.fieldLink RX12 246 "OilPushModel" "movers" "I") (by decide +kernel)) (fun _ h => h) rfl (by decide +kernel) rfl rfl (Nat.le_of_ble_eq_true rfl) dX12_tickOnce_78 (fun H locs hP hD hS => ?_)
  have hP : va_P g.1 vwCl [(h0, .inr (12, ((mF q).set 31 (.int b))))] H := hP
  have hD : va_D A [(h0, .inr (12, ((mF q).set 31 (.int b))))] := hD
  refine lv_iconst (v := 0) hx hb dX12_tickOnce_81 (by decide) ?_
  refine lv_istore_n (lv' := [(2, .int 0), (1, .int 0), (0, .ref h0)]) hx hb dX12_tickOnce_82 rfl hl (by decide) rfl (fun ls hl => ?_)
  refine lv_iload_n hx hb dX12_tickOnce_83 rfl (lv_at hl 0 rfl) ?_
  refine lv_aload_n hx hb dX12_tickOnce_84 rfl (lv_at hl 2 rfl) ?_
  refine va_get (D := g.1) (ci := 12) (v := .int 0) (C := RX12) (T := TX12) (N := 66) hx hb hts hi_X12_tickOnce_X12 hown hK hP 0 rfl rfl 40 (by decide) (hts (.fieldLink RX12 231 "OilPushModel" "moving" "I") (by decide +kernel)) (fun _ h => h) rfl dX12_tickOnce_85 ?_
  refine lv_icmp_ge (tgt := 215) hx hb dX12_tickOnce_88 (by decide) (fun _ => ?_) (fun cc0 => absurd cc0 (by decide))
  refine lv_iload_n hx hb dX12_tickOnce_215 rfl (lv_at hl 1 rfl) ?_
  refine lv_if_ne (tgt := 223) hx hb dX12_tickOnce_216 (by decide) (fun cc0 => absurd cc0 (by decide)) (fun _ => ?_)
  refine lv_iconst (v := 1) hx hb dX12_tickOnce_219 (by decide) ?_
  refine lv_goto (tgt := 224) hx hb dX12_tickOnce_220 (by decide) ?_
  refine lv_istore_n (lv' := [(2, .int 1), (1, .int 0), (0, .ref h0)]) hx hb dX12_tickOnce_224 rfl hl (by decide) rfl (fun ls hl => ?_)
  refine lv_aload_n hx hb dX12_tickOnce_225 rfl (lv_at hl 2 rfl) ?_
  refine callIV (As := []) (rest := []) (wr := []) (Cn := RX12) C (m_storePb l g h0 q b) 0 gX12_tickOnce_X12_storePressure rfl (by decide +kernel) ⟨(Nat.le_of_ble_eq_true rfl), (Nat.le_of_ble_eq_true rfl)⟩ [0] [] hP hD hA hS rfl rfl rfl rfl (by decide) (k := 0) (ci := 12) rfl rfl rfl rfl hl.1 rfl (Nat.le_of_ble_eq_true rfl) dX12_tickOnce_226 ⟨(Nat.le_of_ble_eq_true rfl), (Nat.le_of_ble_eq_true rfl)⟩ (fun r _u H locs hw hP hD hS => ?_)
  have hP : va_P g.1 vwCl [(h0, .inr (12, ((mF q).set 31 (.int b))))] H := hP
  have hD : va_D A [(h0, .inr (12, ((mF q).set 31 (.int b))))] := hD
  subst hw
  refine lv_istore_n (lv' := [(3, .int 0), (2, .int 1), (1, .int 0), (0, .ref h0)]) hx hb dX12_tickOnce_229 rfl hl (by decide) rfl (fun ls hl => ?_)
  refine lv_aload_n hx hb dX12_tickOnce_230 rfl (lv_at hl 3 rfl) ?_
  refine lv_iload_n hx hb dX12_tickOnce_231 rfl (lv_at hl 0 rfl) ?_
  refine lv_aload_n hx hb dX12_tickOnce_232 rfl (lv_at hl 3 rfl) ?_
  refine va_get (D := g.1) (ci := 12) (v := .int 100) (C := RX12) (T := TX12) (N := 66) hx hb hts hi_X12_tickOnce_X12 hown hK hP 0 rfl rfl 6 (by decide) (hts (.fieldLink RX12 129 "OilPushModel" "limit" "I") (by decide +kernel)) (fun _ h => h) rfl dX12_tickOnce_233 ?_
  refine lv_icmp_gt (tgt := 266) hx hb dX12_tickOnce_236 (by decide) (fun cc0 => absurd cc0 (by decide)) (fun _ => ?_)
  refine lv_aload_n hx hb dX12_tickOnce_239 rfl (lv_at hl 3 rfl) ?_
  refine va_get (D := g.1) (ci := 12) (v := .int 0) (C := RX12) (T := TX12) (N := 66) hx hb hts hi_X12_tickOnce_X12 hown hK hP 0 rfl rfl 20 (by decide) (hts (.fieldLink RX12 206 "OilPushModel" "cap" "I") (by decide +kernel)) (fun _ h => h) rfl dX12_tickOnce_240 ?_
  refine lv_aload_n hx hb dX12_tickOnce_243 rfl (lv_at hl 3 rfl) ?_
  refine va_get (D := g.1) (ci := 12) (v := .int 0) (C := RX12) (T := TX12) (N := 66) hx hb hts hi_X12_tickOnce_X12 hown hK hP 0 rfl rfl 23 (by decide) (hts (.fieldLink RX12 203 "OilPushModel" "kept" "I") (by decide +kernel)) (fun _ h => h) rfl dX12_tickOnce_244 ?_
  refine lv_icmp_le (tgt := 266) hx hb dX12_tickOnce_247 (by decide) (fun _ => ?_) (fun cc0 => absurd cc0 (by decide))
  refine lv_iconst (v := 0) hx hb dX12_tickOnce_266 (by decide) ?_
  refine va_put (D := g.1) (ci := 12) (v := .int 0) (ty := .int) (C := RX12) (T := TX12) (N := 66) hx hb hts hi_X12_tickOnce_X12 tyX12 tyX12_ok nmX12 hown hK hP hD hS 0 rfl rfl 34 (by decide) (hts (.fieldLink RX12 253 "OilPushModel" "storeTook" "I") (by decide +kernel)) (fun _ h => h) rfl (by decide +kernel) rfl rfl (Nat.le_of_ble_eq_true rfl) dX12_tickOnce_267 (fun H locs hP hD hS => ?_)
  have hP : va_P g.1 vwCl [(h0, .inr (12, ((mF q).set 31 (.int b))))] H := hP
  have hD : va_D A [(h0, .inr (12, ((mF q).set 31 (.int b))))] := hD
  refine lv_aload_n hx hb dX12_tickOnce_270 rfl (lv_at hl 3 rfl) ?_
  refine lv_dup hx hb dX12_tickOnce_271 rfl ?_
  refine va_get (D := g.1) (ci := 12) (v := .int 0) (C := RX12) (T := TX12) (N := 66) hx hb hts hi_X12_tickOnce_X12 hown hK hP 0 rfl rfl 23 (by decide) (hts (.fieldLink RX12 203 "OilPushModel" "kept" "I") (by decide +kernel)) (fun _ h => h) rfl dX12_tickOnce_272 ?_
  refine lv_aload_n hx hb dX12_tickOnce_275 rfl (lv_at hl 3 rfl) ?_
  refine va_get (D := g.1) (ci := 12) (v := .int 0) (C := RX12) (T := TX12) (N := 66) hx hb hts hi_X12_tickOnce_X12 hown hK hP 0 rfl rfl 34 (by decide) (hts (.fieldLink RX12 253 "OilPushModel" "storeTook" "I") (by decide +kernel)) (fun _ h => h) rfl dX12_tickOnce_276 ?_
  refine lv_iadd hx hb dX12_tickOnce_279 ?_
  refine nx_i (v := 0) (by decide) ?_
  refine va_put (D := g.1) (ci := 12) (v := .int 0) (ty := .int) (C := RX12) (T := TX12) (N := 66) hx hb hts hi_X12_tickOnce_X12 tyX12 tyX12_ok nmX12 hown hK hP hD hS 0 rfl rfl 23 (by decide) (hts (.fieldLink RX12 203 "OilPushModel" "kept" "I") (by decide +kernel)) (fun _ h => h) rfl (by decide +kernel) rfl rfl (Nat.le_of_ble_eq_true rfl) dX12_tickOnce_280 (fun H locs hP hD hS => ?_)
  have hP : va_P g.1 vwCl [(h0, .inr (12, ((mF q).set 31 (.int b))))] H := hP
  have hD : va_D A [(h0, .inr (12, ((mF q).set 31 (.int b))))] := hD
  refine lv_iload_n hx hb dX12_tickOnce_283 rfl (lv_at hl 2 rfl) ?_
  refine lv_aload_n hx hb dX12_tickOnce_284 rfl (lv_at hl 3 rfl) ?_
  refine va_get (D := g.1) (ci := 12) (v := .int 0) (C := RX12) (T := TX12) (N := 66) hx hb hts hi_X12_tickOnce_X12 hown hK hP 0 rfl rfl 34 (by decide) (hts (.fieldLink RX12 253 "OilPushModel" "storeTook" "I") (by decide +kernel)) (fun _ h => h) rfl dX12_tickOnce_285 ?_
  refine lv_isub hx hb dX12_tickOnce_288 ?_
  refine nx_i (v := 0) (by decide) ?_
  refine lv_istore_n (lv' := [(1, .int 0), (3, .int 0), (2, .int 1), (0, .ref h0)]) hx hb dX12_tickOnce_289 rfl hl (by decide) rfl (fun ls hl => ?_)
  refine lv_aload_n hx hb dX12_tickOnce_290 rfl (lv_at hl 3 rfl) ?_
  refine lv_aload_n hx hb dX12_tickOnce_291 rfl (lv_at hl 3 rfl) ?_
  refine va_get (D := g.1) (ci := 12) (v := .int 0) (C := RX12) (T := TX12) (N := 66) hx hb hts hi_X12_tickOnce_X12 hown hK hP 0 rfl rfl 34 (by decide) (hts (.fieldLink RX12 253 "OilPushModel" "storeTook" "I") (by decide +kernel)) (fun _ h => h) rfl dX12_tickOnce_292 ?_
  refine lv_if_le (tgt := 310) hx hb dX12_tickOnce_295 (by decide) (fun _ => ?_) (fun cc0 => absurd cc0 (by decide))
  refine lv_aload_n hx hb dX12_tickOnce_310 rfl (lv_at hl 3 rfl) ?_
  refine va_get (D := g.1) (ci := 12) (v := .int 0) (C := RX12) (T := TX12) (N := 66) hx hb hts hi_X12_tickOnce_X12 hown hK hP 0 rfl rfl 32 (by decide) (hts (.fieldLink RX12 243 "OilPushModel" "pressure" "I") (by decide +kernel)) (fun _ h => h) rfl dX12_tickOnce_311 ?_
  refine va_put (D := g.1) (ci := 12) (v := .int 0) (ty := .int) (C := RX12) (T := TX12) (N := 66) hx hb hts hi_X12_tickOnce_X12 tyX12 tyX12_ok nmX12 hown hK hP hD hS 0 rfl rfl 32 (by decide) (hts (.fieldLink RX12 243 "OilPushModel" "pressure" "I") (by decide +kernel)) (fun _ h => h) rfl (by decide +kernel) rfl rfl (Nat.le_of_ble_eq_true rfl) dX12_tickOnce_314 (fun H locs hP hD hS => ?_)
  have hP : va_P g.1 vwCl [(h0, .inr (12, ((mF q).set 31 (.int b))))] H := hP
  have hD : va_D A [(h0, .inr (12, ((mF q).set 31 (.int b))))] := hD
  refine lv_aload_n hx hb dX12_tickOnce_317 rfl (lv_at hl 3 rfl) ?_
  refine lv_iload_n hx hb dX12_tickOnce_318 rfl (lv_at hl 0 rfl) ?_
  refine va_put (D := g.1) (ci := 12) (v := .int 0) (ty := .int) (C := RX12) (T := TX12) (N := 66) hx hb hts hi_X12_tickOnce_X12 tyX12 tyX12_ok nmX12 hown hK hP hD hS 0 rfl rfl 33 (by decide) (hts (.fieldLink RX12 256 "OilPushModel" "over" "I") (by decide +kernel)) (fun _ h => h) rfl (by decide +kernel) rfl rfl (Nat.le_of_ble_eq_true rfl) dX12_tickOnce_319 (fun H locs hP hD hS => ?_)
  have hP : va_P g.1 vwCl [(h0, .inr (12, ((mF q).set 31 (.int b))))] H := hP
  have hD : va_D A [(h0, .inr (12, ((mF q).set 31 (.int b))))] := hD
  refine lv_aload_n hx hb dX12_tickOnce_322 rfl (lv_at hl 3 rfl) ?_
  refine lv_aload_n hx hb dX12_tickOnce_323 rfl (lv_at hl 3 rfl) ?_
  refine va_get (D := g.1) (ci := 12) (v := .int 0) (C := RX12) (T := TX12) (N := 66) hx hb hts hi_X12_tickOnce_X12 hown hK hP 0 rfl rfl 33 (by decide) (hts (.fieldLink RX12 256 "OilPushModel" "over" "I") (by decide +kernel)) (fun _ h => h) rfl dX12_tickOnce_324 ?_
  refine lv_if_le (tgt := 337) hx hb dX12_tickOnce_327 (by decide) (fun _ => ?_) (fun cc0 => absurd cc0 (by decide))
  refine lv_aload_n hx hb dX12_tickOnce_337 rfl (lv_at hl 3 rfl) ?_
  refine va_get (D := g.1) (ci := 12) (v := .int 0) (C := RX12) (T := TX12) (N := 66) hx hb hts hi_X12_tickOnce_X12 hown hK hP 0 rfl rfl 32 (by decide) (hts (.fieldLink RX12 243 "OilPushModel" "pressure" "I") (by decide +kernel)) (fun _ h => h) rfl dX12_tickOnce_338 ?_
  refine va_put (D := g.1) (ci := 12) (v := .int 0) (ty := .int) (C := RX12) (T := TX12) (N := 66) hx hb hts hi_X12_tickOnce_X12 tyX12 tyX12_ok nmX12 hown hK hP hD hS 0 rfl rfl 32 (by decide) (hts (.fieldLink RX12 243 "OilPushModel" "pressure" "I") (by decide +kernel)) (fun _ h => h) rfl (by decide +kernel) rfl rfl (Nat.le_of_ble_eq_true rfl) dX12_tickOnce_341 (fun H locs hP hD hS => ?_)
  have hP : va_P g.1 vwCl [(h0, .inr (12, ((mF q).set 31 (.int b))))] H := hP
  have hD : va_D A [(h0, .inr (12, ((mF q).set 31 (.int b))))] := hD
  refine lv_iconst (v := 0) hx hb dX12_tickOnce_344 (by decide) ?_
  refine lv_istore (lv' := [(4, .int 0), (1, .int 0), (3, .int 0), (2, .int 1), (0, .ref h0)]) hx hb dX12_tickOnce_345 hl (by decide) rfl (fun ls hl => ?_)
  refine lv_iload hx hb dX12_tickOnce_347 (lv_at hl 0 rfl) ?_
  refine lv_aload_n hx hb dX12_tickOnce_349 rfl (lv_at hl 4 rfl) ?_
  refine va_get (D := g.1) (ci := 12) (v := .int 0) (C := RX12) (T := TX12) (N := 66) hx hb hts hi_X12_tickOnce_X12 hown hK hP 0 rfl rfl 40 (by decide) (hts (.fieldLink RX12 231 "OilPushModel" "moving" "I") (by decide +kernel)) (fun _ h => h) rfl dX12_tickOnce_350 ?_
  refine lv_icmp_ge (tgt := 428) hx hb dX12_tickOnce_353 (by decide) (fun _ => ?_) (fun cc0 => absurd cc0 (by decide))
  refine lv_aload_n hx hb dX12_tickOnce_428 rfl (lv_at hl 4 rfl) ?_
  refine lv_dup hx hb dX12_tickOnce_429 rfl ?_
  refine va_get (D := g.1) (ci := 12) (v := .long 0) (C := RX12) (T := TX12) (N := 66) hx hb hts hi_X12_tickOnce_X12 hown hK hP 0 rfl rfl 37 (by decide) (hts (.fieldLink RX12 259 "OilPushModel" "heat" "J") (by decide +kernel)) (fun _ h => h) rfl dX12_tickOnce_430 ?_
  refine lv_aload_n hx hb dX12_tickOnce_433 rfl (lv_at hl 4 rfl) ?_
  refine va_get (D := g.1) (ci := 12) (v := .int 0) (C := RX12) (T := TX12) (N := 66) hx hb hts hi_X12_tickOnce_X12 hown hK hP 0 rfl rfl 34 (by decide) (hts (.fieldLink RX12 253 "OilPushModel" "storeTook" "I") (by decide +kernel)) (fun _ h => h) rfl dX12_tickOnce_434 ?_
  refine lv_i2l (v := 0) hx hb dX12_tickOnce_437 (by decide) ?_
  refine lv_aload_n hx hb dX12_tickOnce_438 rfl (lv_at hl 4 rfl) ?_
  refine va_get (D := g.1) (ci := 12) (v := .int 0) (C := RX12) (T := TX12) (N := 66) hx hb hts hi_X12_tickOnce_X12 hown hK hP 0 rfl rfl 32 (by decide) (hts (.fieldLink RX12 243 "OilPushModel" "pressure" "I") (by decide +kernel)) (fun _ h => h) rfl dX12_tickOnce_439 ?_
  refine lv_iload_n hx hb dX12_tickOnce_442 rfl (lv_at hl 2 rfl) ?_
  refine lv_isub hx hb dX12_tickOnce_443 ?_
  refine nx_i (v := 0) (by decide) ?_
  refine lv_i2l (v := 0) hx hb dX12_tickOnce_444 (by decide) ?_
  refine lv_lmul hx hb dX12_tickOnce_445 ?_
  refine nx_l (v := 0) (by decide) ?_
  refine lv_aload_n hx hb dX12_tickOnce_446 rfl (lv_at hl 4 rfl) ?_
  refine va_get (D := g.1) (ci := 12) (v := .int 0) (C := RX12) (T := TX12) (N := 66) hx hb hts hi_X12_tickOnce_X12 hown hK hP 0 rfl rfl 33 (by decide) (hts (.fieldLink RX12 256 "OilPushModel" "over" "I") (by decide +kernel)) (fun _ h => h) rfl dX12_tickOnce_447 ?_
  refine lv_i2l (v := 0) hx hb dX12_tickOnce_450 (by decide) ?_
  refine lv_aload_n hx hb dX12_tickOnce_451 rfl (lv_at hl 4 rfl) ?_
  refine va_get (D := g.1) (ci := 12) (v := .int 100) (C := RX12) (T := TX12) (N := 66) hx hb hts hi_X12_tickOnce_X12 hown hK hP 0 rfl rfl 6 (by decide) (hts (.fieldLink RX12 129 "OilPushModel" "limit" "I") (by decide +kernel)) (fun _ h => h) rfl dX12_tickOnce_452 ?_
  refine lv_i2l (v := 100) hx hb dX12_tickOnce_455 (by decide) ?_
  refine lv_lmul hx hb dX12_tickOnce_456 ?_
  refine nx_l (v := 0) (by decide) ?_
  refine lv_ladd hx hb dX12_tickOnce_457 ?_
  refine nx_l (v := 0) (by decide) ?_
  refine lv_ladd hx hb dX12_tickOnce_458 ?_
  refine nx_l (v := 0) (by decide) ?_
  refine va_put (D := g.1) (ci := 12) (v := .long 0) (ty := .long) (C := RX12) (T := TX12) (N := 66) hx hb hts hi_X12_tickOnce_X12 tyX12 tyX12_ok nmX12 hown hK hP hD hS 0 rfl rfl 37 (by decide) (hts (.fieldLink RX12 259 "OilPushModel" "heat" "J") (by decide +kernel)) (fun _ h => h) rfl (by decide +kernel) rfl rfl (Nat.le_of_ble_eq_true rfl) dX12_tickOnce_459 (fun H locs hP hD hS => ?_)
  have hP : va_P g.1 vwCl [(h0, .inr (12, ((mF q).set 31 (.int b))))] H := hP
  have hD : va_D A [(h0, .inr (12, ((mF q).set 31 (.int b))))] := hD
  refine lv_aload_n hx hb dX12_tickOnce_462 rfl (lv_at hl 4 rfl) ?_
  refine lv_dup hx hb dX12_tickOnce_463 rfl ?_
  refine va_get (D := g.1) (ci := 12) (v := .long 0) (C := RX12) (T := TX12) (N := 66) hx hb hts hi_X12_tickOnce_X12 hown hK hP 0 rfl rfl 39 (by decide) (hts (.fieldLink RX12 266 "OilPushModel" "given" "J") (by decide +kernel)) (fun _ h => h) rfl dX12_tickOnce_464 ?_
  refine lv_aload_n hx hb dX12_tickOnce_467 rfl (lv_at hl 4 rfl) ?_
  refine va_get (D := g.1) (ci := 12) (v := .int 0) (C := RX12) (T := TX12) (N := 66) hx hb hts hi_X12_tickOnce_X12 hown hK hP 0 rfl rfl 5 (by decide) (hts (.fieldLink RX12 184 "OilPushModel" "gives" "I") (by decide +kernel)) (fun _ h => h) rfl dX12_tickOnce_468 ?_
  refine lv_i2l (v := 0) hx hb dX12_tickOnce_471 (by decide) ?_
  refine lv_aload_n hx hb dX12_tickOnce_472 rfl (lv_at hl 4 rfl) ?_
  refine va_get (D := g.1) (ci := 12) (v := .int 0) (C := RX12) (T := TX12) (N := 66) hx hb hts hi_X12_tickOnce_X12 hown hK hP 0 rfl rfl 32 (by decide) (hts (.fieldLink RX12 243 "OilPushModel" "pressure" "I") (by decide +kernel)) (fun _ h => h) rfl dX12_tickOnce_473 ?_
  refine lv_i2l (v := 0) hx hb dX12_tickOnce_476 (by decide) ?_
  refine lv_lmul hx hb dX12_tickOnce_477 ?_
  refine nx_l (v := 0) (by decide) ?_
  refine lv_ladd hx hb dX12_tickOnce_478 ?_
  refine nx_l (v := 0) (by decide) ?_
  refine va_put (D := g.1) (ci := 12) (v := .long 0) (ty := .long) (C := RX12) (T := TX12) (N := 66) hx hb hts hi_X12_tickOnce_X12 tyX12 tyX12_ok nmX12 hown hK hP hD hS 0 rfl rfl 39 (by decide) (hts (.fieldLink RX12 266 "OilPushModel" "given" "J") (by decide +kernel)) (fun _ h => h) rfl (by decide +kernel) rfl rfl (Nat.le_of_ble_eq_true rfl) dX12_tickOnce_479 (fun H locs hP hD hS => ?_)
  have hP : va_P g.1 vwCl [(h0, .inr (12, ((mF q).set 31 (.int b))))] H := hP
  have hD : va_D A [(h0, .inr (12, ((mF q).set 31 (.int b))))] := hD
  refine lv_iconst (v := 0) hx hb dX12_tickOnce_482 (by decide) ?_
  refine lv_istore (lv' := [(4, .int 0), (1, .int 0), (3, .int 0), (2, .int 1), (0, .ref h0)]) hx hb dX12_tickOnce_483 hl (by decide) rfl (fun ls hl => ?_)
  refine lv_iload hx hb dX12_tickOnce_485 (lv_at hl 0 rfl) ?_
  refine lv_aload_n hx hb dX12_tickOnce_487 rfl (lv_at hl 4 rfl) ?_
  refine va_get (D := g.1) (ci := 12) (v := .int 0) (C := RX12) (T := TX12) (N := 66) hx hb hts hi_X12_tickOnce_X12 hown hK hP 0 rfl rfl 40 (by decide) (hts (.fieldLink RX12 231 "OilPushModel" "moving" "I") (by decide +kernel)) (fun _ h => h) rfl dX12_tickOnce_488 ?_
  refine lv_icmp_ge (tgt := 614) hx hb dX12_tickOnce_491 (by decide) (fun _ => ?_) (fun cc0 => absurd cc0 (by decide))
  refine lv_aload_n hx hb dX12_tickOnce_614 rfl (lv_at hl 4 rfl) ?_
  refine lv_iconst (v := 1) hx hb dX12_tickOnce_615 (by decide) ?_
  refine va_put (D := g.1) (ci := 12) (v := .int 1) (ty := .boolean) (C := RX12) (T := TX12) (N := 66) hx hb hts hi_X12_tickOnce_X12 tyX12 tyX12_ok nmX12 hown hK hP hD hS 0 rfl rfl 31 (by decide) (hts (.fieldLink RX12 269 "OilPushModel" "isTicked" "Z") (by decide +kernel)) (fun _ h => h) rfl (by decide +kernel) rfl rfl (Nat.le_of_ble_eq_true rfl) dX12_tickOnce_616 (fun H locs hP hD hS => ?_)
  have hP : va_P g.1 vwCl [(h0, .inr (12, ((mF q).set 31 (.int 1))))] H := hP
  have hD : va_D A [(h0, .inr (12, ((mF q).set 31 (.int 1))))] := hD
  exact retV C hS () rfl (hP.pick [0] rfl) (hD.sub [0] rfl rfl) (Nat.le_of_ble_eq_true rfl) (Nat.le_of_ble_eq_true rfl) dX12_tickOnce_619
theorem hi_X12_tick_X12 : ∀ w ∈ wsX120, w ∈ wsX12_tick := fun w h => List.mem_cons_of_mem _ (List.mem_append_right _ h)
def r_m_tick (x1 : Int32) : Int32 := (if (r_c_in (Int32.toInt64 x1) 0 200) = 0 then (-2) else (if (0 + x1) ≤ 100000 then (0 + x1) else (-3)))
set_option maxRecDepth 100000 in
set_option maxHeartbeats 4000000 in
theorem m_tick (l : Launch) (g : Gt) (h0 : Nat) (q : Nat → Nat) (x1 : Int32)  : Ctr l g yX12_tick wsX12_tick ({ frames := 2, cells := 0, slots := 0, locals := 48 } : Room) [.ref h0, .int x1] [(h0, .inr (12, (mF q)))] (fun A => QI g A (fun r (_ : Unit) => r = (r_m_tick x1)) (fun _u : Unit => [])) := by
  refine Ctr.of (cc := cX12_tick) (maxL := 3) (ret := (some .int)) (by decide) rfl (Nat.le_of_ble_eq_true rfl) ?_
  intro p e s m below meth c A ls H C hP hD hA hS hl
  obtain ⟨hx, hb, hr, hts, hown, hlocks, hml, hin, hKN⟩ := id C
  have hK := hKN.1
  have hN := hKN.2
  have F : CallFix p m c cX12_tick 3 s _ wsX12_tick yX12_tick.cls := ⟨hx, hb, hml, hown, hts⟩
  have hl : lv_has ls 3 [(0, .ref h0), (1, .int x1)] := hl
  refine lv_iload_n hx hb dX12_tick_0 rfl (lv_at hl 1 rfl) ?_
  refine lv_i2l hx hb dX12_tick_1 rfl ?_
  refine lv_lconst (v := 0) hx hb dX12_tick_2 (by decide) ?_
  refine lv_ldc2 (v := 200) hx hb hown (hts (.constantLong RX12 273 (200)) (by decide +kernel)) dX12_tick_3 ?_
  refine pureIS (As := [.long (Int32.toInt64 x1), .long 0, .long 200]) (rest := []) F (c_in l (Int32.toInt64 x1) 0 200) 3 gX12_tick_X12_in rfl (by decide +kernel) rfl rfl ⟨(Nat.le_of_ble_eq_true rfl), (Nat.le_of_ble_eq_true rfl)⟩ (Nat.le_of_ble_eq_true rfl) (Nat.le_of_ble_eq_true rfl) rfl hl.1 rfl (Nat.le_of_ble_eq_true rfl) dX12_tick_6 ?_
  refine lv_if_ne (tgt := 15) hx hb dX12_tick_9 (by decide) (fun c1 => ?_) (fun c1 => ?_)
  · refine lv_aload_n hx hb dX12_tick_15 rfl (lv_at hl 0 rfl) ?_
    refine va_get (D := g.1) (ci := 12) (v := .int 0) (C := RX12) (T := TX12) (N := 66) hx hb hts hi_X12_tick_X12 hown hK hP 0 rfl rfl 30 (by decide) (hts (.fieldLink RX12 136 "OilPushModel" "sinceStart" "I") (by decide +kernel)) (fun _ h => h) rfl dX12_tick_16 ?_
    refine lv_iload_n hx hb dX12_tick_19 rfl (lv_at hl 1 rfl) ?_
    refine lv_iadd hx hb dX12_tick_20 ?_
    refine lv_ldcw (v := 100000) hx hb hown (hts (.constant RX12 275 (100000)) (by decide +kernel)) dX12_tick_21 ?_
    refine lv_icmp_le (tgt := 30) hx hb dX12_tick_24 (by decide) (fun c2 => ?_) (fun c2 => ?_)
    · refine lv_iconst (v := 0) hx hb dX12_tick_30 (by decide) ?_
      refine lv_istore_n (lv' := [(2, .int 0), (0, .ref h0), (1, .int x1)]) hx hb dX12_tick_31 rfl hl (by decide) rfl (fun ls hl => ?_)
      have hP : va_P g.1 vwCl [(h0, .inr (12, ((mF q).set 31 (.int 0))))] _ := hP
      have hD : va_D A [(h0, .inr (12, ((mF q).set 31 (.int 0))))] := hD
      refine W.loop (α := Int32 × Int32) (P := fun (z : Int32 × Int32) ls H locs => 0 ≤ z.1.toInt ∧ z.1.toInt ≤ x1.toInt ∧ lv_has ls 3 [(2, .int z.1), (0, .ref h0), (1, .int x1)] ∧ va_P g.1 vwCl [(h0, .inr (12, ((mF q).set 31 (.int z.2))))] H ∧ va_S A s.heap H locs ∧ va_D A [(h0, .inr (12, ((mF q).set 31 (.int z.2))))]) (μ := fun (z : Int32 × Int32) => (x1.toInt - z.1.toInt).toNat) (0, 0) ⟨(by decide), (in_ge c1).1, hl, hP, hS, hD⟩ (fun z ls H locs hh ih => ?_)
      obtain ⟨ix, b⟩ := z
      dsimp only at hh ih
      obtain ⟨hi0, hib, hl, hP, hS, hD⟩ := hh
      refine lv_iload_n hx hb dX12_tick_32 rfl (lv_at hl 0 rfl) ?_
      refine lv_iload_n hx hb dX12_tick_33 rfl (lv_at hl 2 rfl) ?_
      refine lv_icmp_ge (tgt := 47) hx hb dX12_tick_34 (by decide) (fun c3 => ?_) (fun c3 => ?_)
      · refine lv_aload_n hx hb dX12_tick_47 rfl (lv_at hl 1 rfl) ?_
        refine lv_dup hx hb dX12_tick_48 rfl ?_
        refine va_get (D := g.1) (ci := 12) (v := .int 0) (C := RX12) (T := TX12) (N := 66) hx hb hts hi_X12_tick_X12 hown hK hP 0 rfl rfl 30 (by decide) (hts (.fieldLink RX12 136 "OilPushModel" "sinceStart" "I") (by decide +kernel)) (fun _ h => h) rfl dX12_tick_49 ?_
        refine lv_iload_n hx hb dX12_tick_52 rfl (lv_at hl 2 rfl) ?_
        refine lv_iadd hx hb dX12_tick_53 ?_
        refine va_put (D := g.1) (ci := 12) (v := .int (0 + x1)) (ty := .int) (C := RX12) (T := TX12) (N := 66) hx hb hts hi_X12_tick_X12 tyX12 tyX12_ok nmX12 hown hK hP hD hS 0 rfl rfl 30 (by decide) (hts (.fieldLink RX12 136 "OilPushModel" "sinceStart" "I") (by decide +kernel)) (fun _ h => h) rfl (by decide +kernel) rfl rfl (Nat.le_of_ble_eq_true rfl) dX12_tick_54 (fun H locs hP hD hS => ?_)
        have hP : va_P g.1 vwCl [(h0, .inr (12, (((mF q).set 31 (.int b)).set 30 (.int (0 + x1)))))] H := hP
        have hD : va_D A [(h0, .inr (12, (((mF q).set 31 (.int b)).set 30 (.int (0 + x1)))))] := hD
        refine lv_aload_n hx hb dX12_tick_57 rfl (lv_at hl 1 rfl) ?_
        refine va_get (D := g.1) (ci := 12) (v := .int (0 + x1)) (C := RX12) (T := TX12) (N := 66) hx hb hts hi_X12_tick_X12 hown hK hP 0 rfl rfl 30 (by decide) (hts (.fieldLink RX12 136 "OilPushModel" "sinceStart" "I") (by decide +kernel)) (fun _ h => h) rfl dX12_tick_58 ?_
        exact retI C hS () (by unfold r_m_tick; rw [if_neg c1, if_pos c2]) (hP.pick [] rfl) (hD.sub [] rfl rfl) (Nat.le_of_ble_eq_true rfl) (Nat.le_of_ble_eq_true rfl) dX12_tick_61
      refine lv_aload_n hx hb dX12_tick_37 rfl (lv_at hl 1 rfl) ?_
      refine callVV (As := []) (rest := []) (wr := []) (Cn := RX12) C (m_tickOnce l g h0 q b) 0 gX12_tick_X12_tickOnce rfl (by decide +kernel) ⟨(Nat.le_of_ble_eq_true rfl), (Nat.le_of_ble_eq_true rfl)⟩ [0] [] hP hD hA hS rfl rfl rfl rfl (by decide) (k := 0) (ci := 12) rfl rfl rfl rfl hl.1 rfl (Nat.le_of_ble_eq_true rfl) dX12_tick_38 ⟨(Nat.le_of_ble_eq_true rfl), (Nat.le_of_ble_eq_true rfl)⟩ (fun _u H locs hw hP hD hS => ?_)
      have hP : va_P g.1 vwCl [(h0, .inr (12, ((mF q).set 31 (.int 1))))] H := hP
      have hD : va_D A [(h0, .inr (12, ((mF q).set 31 (.int 1))))] := hD
      refine lv_iinc (v := (ix + 1)) (lv' := [(2, .int (ix + 1)), (0, .ref h0), (1, .int x1)]) hx hb dX12_tick_41 hl (k := 0) rfl rfl (by decide) rfl (fun ls hl => ?_)
      refine lv_goto (tgt := 32) hx hb dX12_tick_44 (by decide) ?_
      have hx1 := inc_toInt c3
      exact ih (ix + 1, 1) ls H locs ⟨(by dsimp only; omega), (by dsimp only; exact inc_le c3), lv_sub hl [0, 1, 2] rfl, hP.pick [0] rfl, hS, hD.sub [0] rfl rfl⟩ (by dsimp only; exact inc_mu c3 hib)
    refine lv_bipush (v := -3) hx hb dX12_tick_27 (by decide) ?_
    exact retI C hS () (by unfold r_m_tick; rw [if_neg c1, if_neg c2]) (hP.pick [] rfl) (hD.sub [] rfl rfl) (Nat.le_of_ble_eq_true rfl) (Nat.le_of_ble_eq_true rfl) dX12_tick_29
  refine lv_bipush (v := -2) hx hb dX12_tick_12 (by decide) ?_
  exact retI C hS () (by unfold r_m_tick; rw [if_pos c1]) (hP.pick [] rfl) (hD.sub [] rfl rfl) (Nat.le_of_ble_eq_true rfl) (Nat.le_of_ble_eq_true rfl) dX12_tick_14
theorem sheet_idx {k ix n : Int32} (hk : vp_in k 4) (h0 : 0 ≤ ix.toInt) (h1 : ¬ n ≤ ix) (h2 : n ≤ 20) : vp_in (20 * k + ix) 80 := by
  rw [vp_in_iff] at hk ⊢
  rw [Int32.le_iff_toInt_le] at h1
  rw [Int32.le_iff_toInt_le] at h2
  have e20 : (20 : Int32).toInt = 20 := by decide
  rw [e20] at h2
  have e1 : (20 * k).toInt = 20 * k.toInt := by
    rw [Int32.toInt_mul, e20, Int.bmod_eq_of_le] <;> omega
  have e2 : (20 * k + ix).toInt = 20 * k.toInt + ix.toInt := by
    rw [Int32.toInt_add, e1, Int.bmod_eq_of_le] <;> omega
  rw [e2]
  omega
theorem hi_X12_sheet_X12 : ∀ w ∈ wsX120, w ∈ wsX12_sheet := fun w h => List.mem_cons_of_mem _ (List.mem_append_right _ h)
def r_m_sheet (k : Int32) (lane : Int32) (n : Int32) : Int32 := (if (r_c_noSheet k) = 0 then (if (r_c_in (Int32.toInt64 lane) 0 2) = 0 then (-2) else (if n ≤ 20 then (if 0 ≤ n then 1 else ((-10) - 4)) else (-2))) else (-1))
set_option maxRecDepth 100000 in
set_option maxHeartbeats 4000000 in
theorem m_sheet (l : Launch) (g : Gt) (h0 : Nat) (q : Nat → Nat) (k : Int32) (lane : Int32) (n : Int32)  : Ctr l g yX12_sheet wsX12_sheet ({ frames := 2, cells := 0, slots := 0, locals := 45 } : Room) [.ref h0, .int k, .int lane, .int n] [(h0, .inr (12, (mF q))), ((q 1), .inl (g.2 0, 4, .inl mSz)), ((q 2), .inl (g.2 0, 4, .inl z0)), ((q 3), .inl (g.2 0, 80, .inl z0))] (fun A => QI g A (fun r (_ : Unit) => r = (r_m_sheet k lane n)) (fun _u : Unit => [])) := by
  refine Ctr.of (cc := cX12_sheet) (maxL := 5) (ret := (some .int)) (by decide) rfl (Nat.le_of_ble_eq_true rfl) ?_
  intro p e s m below meth c A ls H C hP hD hA hS hl
  obtain ⟨hx, hb, hr, hts, hown, hlocks, hml, hin, hKN⟩ := id C
  have hK := hKN.1
  have hN := hKN.2
  have F : CallFix p m c cX12_sheet 5 s _ wsX12_sheet yX12_sheet.cls := ⟨hx, hb, hml, hown, hts⟩
  have hl : lv_has ls 5 [(0, .ref h0), (1, .int k), (2, .int lane), (3, .int n)] := hl
  refine lv_iload_n hx hb dX12_sheet_0 rfl (lv_at hl 1 rfl) ?_
  refine pureIS (As := [.int k]) (rest := []) F (c_noSheet l k) 1 gX12_sheet_X12_noSheet rfl (by decide +kernel) rfl rfl ⟨(Nat.le_of_ble_eq_true rfl), (Nat.le_of_ble_eq_true rfl)⟩ (Nat.le_of_ble_eq_true rfl) (Nat.le_of_ble_eq_true rfl) rfl hl.1 rfl (Nat.le_of_ble_eq_true rfl) dX12_sheet_1 ?_
  refine lv_if_eq (tgt := 13) hx hb dX12_sheet_4 (by decide) (fun c1 => ?_) (fun c1 => ?_)
  · refine lv_iload_n hx hb dX12_sheet_13 rfl (lv_at hl 2 rfl) ?_
    refine lv_i2l hx hb dX12_sheet_14 rfl ?_
    refine lv_lconst (v := 0) hx hb dX12_sheet_15 (by decide) ?_
    refine lv_ldc2 (v := 2) hx hb hown (hts (.constantLong RX12 162 (2)) (by decide +kernel)) dX12_sheet_16 ?_
    refine pureIS (As := [.long (Int32.toInt64 lane), .long 0, .long 2]) (rest := []) F (c_in l (Int32.toInt64 lane) 0 2) 3 gX12_sheet_X12_in rfl (by decide +kernel) rfl rfl ⟨(Nat.le_of_ble_eq_true rfl), (Nat.le_of_ble_eq_true rfl)⟩ (Nat.le_of_ble_eq_true rfl) (Nat.le_of_ble_eq_true rfl) rfl hl.1 rfl (Nat.le_of_ble_eq_true rfl) dX12_sheet_19 ?_
    refine lv_if_eq (tgt := 31) hx hb dX12_sheet_22 (by decide) (fun c2 => ?_) (fun c2 => ?_)
    · refine lv_aload_n hx hb dX12_sheet_31 rfl (lv_at hl 0 rfl) ?_
      refine lv_bipush (v := -2) hx hb dX12_sheet_32 (by decide) ?_
      refine callIV (As := [.int (-2)]) (rest := []) (wr := [((q 1), .inl (g.2 0, 4, .inl mSz)), ((q 2), .inl (g.2 0, 4, .inl z0)), ((q 3), .inl (g.2 0, 80, .inl z0))]) (Cn := RX12) C (m_refused l g h0 q (-2)) 1 gX12_sheet_X12_refused rfl (by decide +kernel) ⟨(Nat.le_of_ble_eq_true rfl), (Nat.le_of_ble_eq_true rfl)⟩ [0] [1, 2, 3] hP hD hA hS rfl rfl rfl rfl (by decide) (k := 0) (ci := 12) rfl rfl rfl rfl hl.1 rfl (Nat.le_of_ble_eq_true rfl) dX12_sheet_34 ⟨(Nat.le_of_ble_eq_true rfl), (Nat.le_of_ble_eq_true rfl)⟩ (fun r _u H locs hw hP hD hS => ?_)
      have hP : va_P g.1 vwCl [((q 1), .inl (g.2 0, 4, .inl mSz)), ((q 2), .inl (g.2 0, 4, .inl z0)), ((q 3), .inl (g.2 0, 80, .inl z0))] H := hP
      have hD : va_D A [((q 1), .inl (g.2 0, 4, .inl mSz)), ((q 2), .inl (g.2 0, 4, .inl z0)), ((q 3), .inl (g.2 0, 80, .inl z0))] := hD
      subst hw
      exact retI C hS () (by unfold r_m_sheet; rw [if_pos c1, if_pos c2]) (hP.pick [] rfl) (hD.sub [] rfl rfl) (Nat.le_of_ble_eq_true rfl) (Nat.le_of_ble_eq_true rfl) dX12_sheet_37
    refine lv_iload_n hx hb dX12_sheet_25 rfl (lv_at hl 3 rfl) ?_
    refine lv_bipush (v := 20) hx hb dX12_sheet_26 (by decide) ?_
    refine lv_icmp_le (tgt := 38) hx hb dX12_sheet_28 (by decide) (fun c3 => ?_) (fun c3 => ?_)
    · refine lv_iload_n hx hb dX12_sheet_38 rfl (lv_at hl 3 rfl) ?_
      refine lv_if_ge (tgt := 48) hx hb dX12_sheet_39 (by decide) (fun c4 => ?_) (fun c4 => ?_)
      · refine lv_aload_n hx hb dX12_sheet_48 rfl (lv_at hl 0 rfl) ?_
        refine va_get (D := g.1) (ci := 12) (v := .ref (q 1)) (C := RX12) (T := TX12) (N := 66) hx hb hts hi_X12_sheet_X12 hown hK hP 0 rfl rfl 1 (by decide) (hts (.fieldLink RX12 7 "OilPushModel" "sheetSize" "[I") (by decide +kernel)) (fun _ h => h) rfl dX12_sheet_49 ?_
        refine lv_iload_n hx hb dX12_sheet_52 rfl (lv_at hl 1 rfl) ?_
        refine lv_iload_n hx hb dX12_sheet_53 rfl (lv_at hl 3 rfl) ?_
        refine va_iast hx hb hK hP hD hS 1 0 rfl rfl (noSheet_in c1) dX12_sheet_54 (fun H locs hP hD hS => ?_)
        have hP : va_P g.1 vwCl [(h0, .inr (12, (mF q))), ((q 1), .inl (g.2 0, 4, .inl (upd mSz (k.toNatClampNeg) n))), ((q 2), .inl (g.2 0, 4, .inl z0)), ((q 3), .inl (g.2 0, 80, .inl z0))] H := hP
        have hD : va_D A [(h0, .inr (12, (mF q))), ((q 1), .inl (g.2 0, 4, .inl (upd mSz (k.toNatClampNeg) n))), ((q 2), .inl (g.2 0, 4, .inl z0)), ((q 3), .inl (g.2 0, 80, .inl z0))] := hD
        refine lv_aload_n hx hb dX12_sheet_55 rfl (lv_at hl 0 rfl) ?_
        refine va_get (D := g.1) (ci := 12) (v := .ref (q 2)) (C := RX12) (T := TX12) (N := 66) hx hb hts hi_X12_sheet_X12 hown hK hP 0 rfl rfl 2 (by decide) (hts (.fieldLink RX12 13 "OilPushModel" "sheetLane" "[I") (by decide +kernel)) (fun _ h => h) rfl dX12_sheet_56 ?_
        refine lv_iload_n hx hb dX12_sheet_59 rfl (lv_at hl 1 rfl) ?_
        refine lv_iload_n hx hb dX12_sheet_60 rfl (lv_at hl 2 rfl) ?_
        refine va_iast hx hb hK hP hD hS 2 0 rfl rfl (noSheet_in c1) dX12_sheet_61 (fun H locs hP hD hS => ?_)
        have hP : va_P g.1 vwCl [(h0, .inr (12, (mF q))), ((q 1), .inl (g.2 0, 4, .inl (upd mSz (k.toNatClampNeg) n))), ((q 2), .inl (g.2 0, 4, .inl (upd z0 (k.toNatClampNeg) lane))), ((q 3), .inl (g.2 0, 80, .inl z0))] H := hP
        have hD : va_D A [(h0, .inr (12, (mF q))), ((q 1), .inl (g.2 0, 4, .inl (upd mSz (k.toNatClampNeg) n))), ((q 2), .inl (g.2 0, 4, .inl (upd z0 (k.toNatClampNeg) lane))), ((q 3), .inl (g.2 0, 80, .inl z0))] := hD
        refine lv_iconst (v := 0) hx hb dX12_sheet_62 (by decide) ?_
        refine lv_istore (lv' := [(4, .int 0), (0, .ref h0), (1, .int k), (2, .int lane), (3, .int n)]) hx hb dX12_sheet_63 hl (by decide) rfl (fun ls hl => ?_)
        refine W.loop (α := Int32) (P := fun (ix : Int32) ls H locs => 0 ≤ ix.toInt ∧ ix.toInt ≤ n.toInt ∧ lv_has ls 5 [(4, .int ix), (0, .ref h0), (1, .int k), (2, .int lane), (3, .int n)] ∧ va_P g.1 vwCl [(h0, .inr (12, (mF q))), ((q 1), .inl (g.2 0, 4, .inl (upd mSz (k.toNatClampNeg) n))), ((q 2), .inl (g.2 0, 4, .inl (upd z0 (k.toNatClampNeg) lane))), ((q 3), .inl (g.2 0, 80, .inl z0))] H ∧ va_S A s.heap H locs) (μ := fun (ix : Int32) => (n.toInt - ix.toInt).toNat) 0 ⟨(by decide), (Int32.le_iff_toInt_le.mp c4), hl, hP, hS⟩ (fun ix ls H locs hh ih => ?_)
        obtain ⟨hi0, hib, hl, hP, hS⟩ := hh
        refine lv_iload hx hb dX12_sheet_65 (lv_at hl 0 rfl) ?_
        refine lv_iload_n hx hb dX12_sheet_67 rfl (lv_at hl 4 rfl) ?_
        refine lv_icmp_ge (tgt := 90) hx hb dX12_sheet_68 (by decide) (fun c5 => ?_) (fun c5 => ?_)
        · refine lv_aload_n hx hb dX12_sheet_90 rfl (lv_at hl 1 rfl) ?_
          refine lv_iconst (v := 1) hx hb dX12_sheet_91 (by decide) ?_
          refine callIV (As := [.int 1]) (rest := []) (wr := [((q 1), .inl (g.2 0, 4, .inl (upd mSz (k.toNatClampNeg) n))), ((q 2), .inl (g.2 0, 4, .inl (upd z0 (k.toNatClampNeg) lane))), ((q 3), .inl (g.2 0, 80, .inl z0))]) (Cn := RX12) C (m_refused l g h0 q 1) 1 gX12_sheet_X12_refused rfl (by decide +kernel) ⟨(Nat.le_of_ble_eq_true rfl), (Nat.le_of_ble_eq_true rfl)⟩ [0] [1, 2, 3] hP hD hA hS rfl rfl rfl rfl (by decide) (k := 0) (ci := 12) rfl rfl rfl rfl hl.1 rfl (Nat.le_of_ble_eq_true rfl) dX12_sheet_92 ⟨(Nat.le_of_ble_eq_true rfl), (Nat.le_of_ble_eq_true rfl)⟩ (fun r _u H locs hw hP hD hS => ?_)
          have hP : va_P g.1 vwCl [((q 1), .inl (g.2 0, 4, .inl (upd mSz (k.toNatClampNeg) n))), ((q 2), .inl (g.2 0, 4, .inl (upd z0 (k.toNatClampNeg) lane))), ((q 3), .inl (g.2 0, 80, .inl z0))] H := hP
          have hD : va_D A [((q 1), .inl (g.2 0, 4, .inl (upd mSz (k.toNatClampNeg) n))), ((q 2), .inl (g.2 0, 4, .inl (upd z0 (k.toNatClampNeg) lane))), ((q 3), .inl (g.2 0, 80, .inl z0))] := hD
          subst hw
          exact retI C hS () (by unfold r_m_sheet; rw [if_pos c1, if_neg c2, if_pos c3, if_pos c4]) (hP.pick [] rfl) (hD.sub [] rfl rfl) (Nat.le_of_ble_eq_true rfl) (Nat.le_of_ble_eq_true rfl) dX12_sheet_95
        refine lv_aload_n hx hb dX12_sheet_71 rfl (lv_at hl 1 rfl) ?_
        refine va_get (D := g.1) (ci := 12) (v := .ref (q 3)) (C := RX12) (T := TX12) (N := 66) hx hb hts hi_X12_sheet_X12 hown hK hP 0 rfl rfl 3 (by decide) (hts (.fieldLink RX12 16 "OilPushModel" "sheet" "[I") (by decide +kernel)) (fun _ h => h) rfl dX12_sheet_72 ?_
        refine lv_bipush (v := 20) hx hb dX12_sheet_75 (by decide) ?_
        refine lv_iload_n hx hb dX12_sheet_77 rfl (lv_at hl 2 rfl) ?_
        refine lv_imul hx hb dX12_sheet_78 ?_
        refine lv_iload hx hb dX12_sheet_79 (lv_at hl 0 rfl) ?_
        refine lv_iadd hx hb dX12_sheet_81 ?_
        refine lv_iconst (v := 0) hx hb dX12_sheet_82 (by decide) ?_
        refine va_iast hx hb hK hP hD hS 3 0 rfl rfl (sheet_idx (noSheet_in c1) hi0 c5 c3) dX12_sheet_83 (fun H locs hP hD hS => ?_)
        have hP : va_P g.1 vwCl [(h0, .inr (12, (mF q))), ((q 1), .inl (g.2 0, 4, .inl (upd mSz (k.toNatClampNeg) n))), ((q 2), .inl (g.2 0, 4, .inl (upd z0 (k.toNatClampNeg) lane))), ((q 3), .inl (g.2 0, 80, .inl z0))] H := by have h9 := hP; rw [upd_zero] at h9; exact h9
        have hD : va_D A [(h0, .inr (12, (mF q))), ((q 1), .inl (g.2 0, 4, .inl (upd mSz (k.toNatClampNeg) n))), ((q 2), .inl (g.2 0, 4, .inl (upd z0 (k.toNatClampNeg) lane))), ((q 3), .inl (g.2 0, 80, .inl z0))] := by have h9 := hD; rw [upd_zero] at h9; exact h9
        refine lv_iinc (v := (ix + 1)) (lv' := [(4, .int (ix + 1)), (0, .ref h0), (1, .int k), (2, .int lane), (3, .int n)]) hx hb dX12_sheet_84 hl (k := 0) rfl rfl (by decide) rfl (fun ls hl => ?_)
        refine lv_goto (tgt := 65) hx hb dX12_sheet_87 (by decide) ?_
        have hx1 := inc_toInt c5
        exact ih (ix + 1) ls H locs ⟨(by omega), (by exact inc_le c5), lv_sub hl [0, 1, 2, 3, 4] rfl, hP.pick [0, 1, 2, 3] rfl, hS⟩ (by exact inc_mu c5 hib)
      refine lv_aload_n hx hb dX12_sheet_42 rfl (lv_at hl 0 rfl) ?_
      refine lv_iconst (v := 4) hx hb dX12_sheet_43 (by decide) ?_
      refine callIV (As := [.int 4]) (rest := []) (wr := [((q 1), .inl (g.2 0, 4, .inl mSz)), ((q 2), .inl (g.2 0, 4, .inl z0)), ((q 3), .inl (g.2 0, 80, .inl z0))]) (Cn := RX12) C (m_failed l g h0 q 4) 1 gX12_sheet_X12_failed rfl (by decide +kernel) ⟨(Nat.le_of_ble_eq_true rfl), (Nat.le_of_ble_eq_true rfl)⟩ [0] [1, 2, 3] hP hD hA hS rfl rfl rfl rfl (by decide) (k := 0) (ci := 12) rfl rfl rfl rfl hl.1 rfl (Nat.le_of_ble_eq_true rfl) dX12_sheet_44 ⟨(Nat.le_of_ble_eq_true rfl), (Nat.le_of_ble_eq_true rfl)⟩ (fun r _u H locs hw hP hD hS => ?_)
      have hP : va_P g.1 vwCl [((q 1), .inl (g.2 0, 4, .inl mSz)), ((q 2), .inl (g.2 0, 4, .inl z0)), ((q 3), .inl (g.2 0, 80, .inl z0))] H := hP
      have hD : va_D A [((q 1), .inl (g.2 0, 4, .inl mSz)), ((q 2), .inl (g.2 0, 4, .inl z0)), ((q 3), .inl (g.2 0, 80, .inl z0))] := hD
      subst hw
      exact retI C hS () (by unfold r_m_sheet; rw [if_pos c1, if_neg c2, if_pos c3, if_neg c4]) (hP.pick [] rfl) (hD.sub [] rfl rfl) (Nat.le_of_ble_eq_true rfl) (Nat.le_of_ble_eq_true rfl) dX12_sheet_47
    refine lv_aload_n hx hb dX12_sheet_31 rfl (lv_at hl 0 rfl) ?_
    refine lv_bipush (v := -2) hx hb dX12_sheet_32 (by decide) ?_
    refine callIV (As := [.int (-2)]) (rest := []) (wr := [((q 1), .inl (g.2 0, 4, .inl mSz)), ((q 2), .inl (g.2 0, 4, .inl z0)), ((q 3), .inl (g.2 0, 80, .inl z0))]) (Cn := RX12) C (m_refused l g h0 q (-2)) 1 gX12_sheet_X12_refused rfl (by decide +kernel) ⟨(Nat.le_of_ble_eq_true rfl), (Nat.le_of_ble_eq_true rfl)⟩ [0] [1, 2, 3] hP hD hA hS rfl rfl rfl rfl (by decide) (k := 0) (ci := 12) rfl rfl rfl rfl hl.1 rfl (Nat.le_of_ble_eq_true rfl) dX12_sheet_34 ⟨(Nat.le_of_ble_eq_true rfl), (Nat.le_of_ble_eq_true rfl)⟩ (fun r _u H locs hw hP hD hS => ?_)
    have hP : va_P g.1 vwCl [((q 1), .inl (g.2 0, 4, .inl mSz)), ((q 2), .inl (g.2 0, 4, .inl z0)), ((q 3), .inl (g.2 0, 80, .inl z0))] H := hP
    have hD : va_D A [((q 1), .inl (g.2 0, 4, .inl mSz)), ((q 2), .inl (g.2 0, 4, .inl z0)), ((q 3), .inl (g.2 0, 80, .inl z0))] := hD
    subst hw
    exact retI C hS () (by unfold r_m_sheet; rw [if_pos c1, if_neg c2, if_neg c3]) (hP.pick [] rfl) (hD.sub [] rfl rfl) (Nat.le_of_ble_eq_true rfl) (Nat.le_of_ble_eq_true rfl) dX12_sheet_37
  refine lv_aload_n hx hb dX12_sheet_7 rfl (lv_at hl 0 rfl) ?_
  refine lv_iconst (v := -1) hx hb dX12_sheet_8 (by decide) ?_
  refine callIV (As := [.int (-1)]) (rest := []) (wr := [((q 1), .inl (g.2 0, 4, .inl mSz)), ((q 2), .inl (g.2 0, 4, .inl z0)), ((q 3), .inl (g.2 0, 80, .inl z0))]) (Cn := RX12) C (m_refused l g h0 q (-1)) 1 gX12_sheet_X12_refused rfl (by decide +kernel) ⟨(Nat.le_of_ble_eq_true rfl), (Nat.le_of_ble_eq_true rfl)⟩ [0] [1, 2, 3] hP hD hA hS rfl rfl rfl rfl (by decide) (k := 0) (ci := 12) rfl rfl rfl rfl hl.1 rfl (Nat.le_of_ble_eq_true rfl) dX12_sheet_9 ⟨(Nat.le_of_ble_eq_true rfl), (Nat.le_of_ble_eq_true rfl)⟩ (fun r _u H locs hw hP hD hS => ?_)
  have hP : va_P g.1 vwCl [((q 1), .inl (g.2 0, 4, .inl mSz)), ((q 2), .inl (g.2 0, 4, .inl z0)), ((q 3), .inl (g.2 0, 80, .inl z0))] H := hP
  have hD : va_D A [((q 1), .inl (g.2 0, 4, .inl mSz)), ((q 2), .inl (g.2 0, 4, .inl z0)), ((q 3), .inl (g.2 0, 80, .inl z0))] := hD
  subst hw
  exact retI C hS () (by unfold r_m_sheet; rw [if_neg c1]) (hP.pick [] rfl) (hD.sub [] rfl rfl) (Nat.le_of_ble_eq_true rfl) (Nat.le_of_ble_eq_true rfl) dX12_sheet_12
