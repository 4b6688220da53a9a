theorem hc_X0_room_X0 : ∀ w ∈ wsX00, w ∈ wsX0_room := fun w h => List.mem_cons_of_mem _ (List.mem_append_left _ (List.mem_append_left _ (List.mem_append_right _ h)))
set_option maxRecDepth 100000 in
set_option maxHeartbeats 4000000 in
theorem y0_room (l : Launch) (g : Gt) (b : Nat) (lr : Nat) (num : Int32) (ar : Int32) (sk : Int32) (lc : Int32) (cr : Int32) (fl : Int32)  : Ctr l g yX0_room wsX0_room ({ frames := 0, cells := 0, slots := 0, locals := 0 } : Room) [.ref b] [(b, .inr (0, [.int num, .int ar, .int sk, .ref lr, .int lc, .int cr, .int fl]))] (fun A => QI g A (fun r (_ : Unit) => r = (ar * sk)) (fun _u : Unit => [(b, .inr (0, [.int num, .int ar, .int sk, .ref lr, .int lc, .int cr, .int fl]))])) := by
  refine Ctr.of (cc := cX0_room) (maxL := 1) (ret := (some .int)) (by decide) rfl (Nat.le_of_ble_eq_true rfl) ?_
  intro p e s m below meth c A ls H C hP hD hA hS hl
  obtain ⟨hx, hb, hr, hts, hown, hlocks, hml, hin, hKN⟩ := id C
  have hK := hKN.1
  have hN := hKN.2
  have F : CallFix p m c cX0_room 1 s _ wsX0_room yX0_room.cls := ⟨hx, hb, hml, hown, hts⟩
  have hl : lv_has ls 1 [(0, .ref b)] := hl
  refine lv_aload_n hx hb dX0_room_0 rfl (lv_at hl 0 rfl) ?_
  refine va_get (D := g.1) (ci := 0) (v := .int ar) (C := RX0) (T := TX0) (N := 7) hx hb hts hc_X0_room_X0 hown hK hP 0 rfl rfl 1 (by decide) (hts (.fieldLink RX0 25 "OilPush$Cylinder" "area" "I") (List.mem_of_getElem? (i := 1) rfl)) (fun _ h => h) rfl dX0_room_1 ?_
  refine lv_aload_n hx hb dX0_room_4 rfl (lv_at hl 0 rfl) ?_
  refine va_get (D := g.1) (ci := 0) (v := .int sk) (C := RX0) (T := TX0) (N := 7) hx hb hts hc_X0_room_X0 hown hK hP 0 rfl rfl 2 (by decide) (hts (.fieldLink RX0 28 "OilPush$Cylinder" "stroke" "I") (List.mem_of_getElem? (i := 2) rfl)) (fun _ h => h) rfl dX0_room_5 ?_
  refine lv_imul hx hb dX0_room_8 ?_
  exact retI C hS () rfl (hP.pick [0] rfl) (hD.sub [0] rfl rfl) (Nat.le_of_ble_eq_true rfl) (Nat.le_of_ble_eq_true rfl) dX0_room_9
theorem hc_X0_room_X2 : ∀ w ∈ wsX20, w ∈ wsX0_room := fun w h => List.mem_cons_of_mem _ (List.mem_append_left _ (List.mem_append_right _ h))
set_option maxRecDepth 100000 in
set_option maxHeartbeats 4000000 in
theorem y2_room (l : Launch) (g : Gt) (b : Nat) (lr : Nat) (num : Int32) (ar : Int32) (sk : Int32) (lc : Int32) (cr : Int32) (fl : Int32)  : Ctr l g yX0_room wsX0_room ({ frames := 0, cells := 0, slots := 0, locals := 0 } : Room) [.ref b] [(b, .inr (2, [.int num, .int ar, .int sk, .ref lr, .int lc, .int cr, .int fl]))] (fun A => QI g A (fun r (_ : Unit) => r = (ar * sk)) (fun _u : Unit => [(b, .inr (2, [.int num, .int ar, .int sk, .ref lr, .int lc, .int cr, .int fl]))])) := by
  refine Ctr.of (cc := cX0_room) (maxL := 1) (ret := (some .int)) (by decide) rfl (Nat.le_of_ble_eq_true rfl) ?_
  intro p e s m below meth c A ls H C hP hD hA hS hl
  obtain ⟨hx, hb, hr, hts, hown, hlocks, hml, hin, hKN⟩ := id C
  have hK := hKN.1
  have hN := hKN.2
  have F : CallFix p m c cX0_room 1 s _ wsX0_room yX0_room.cls := ⟨hx, hb, hml, hown, hts⟩
  have hl : lv_has ls 1 [(0, .ref b)] := hl
  refine lv_aload_n hx hb dX0_room_0 rfl (lv_at hl 0 rfl) ?_
  refine va_get (D := g.1) (ci := 2) (v := .int ar) (C := RX2) (T := TX2) (N := 7) hx hb hts hc_X0_room_X2 hown hK hP 0 rfl rfl 1 (by decide) (hts (.fieldLink RX0 25 "OilPush$Cylinder" "area" "I") (List.mem_of_getElem? (i := 1) rfl)) (fun _ h => h) rfl dX0_room_1 ?_
  refine lv_aload_n hx hb dX0_room_4 rfl (lv_at hl 0 rfl) ?_
  refine va_get (D := g.1) (ci := 2) (v := .int sk) (C := RX2) (T := TX2) (N := 7) hx hb hts hc_X0_room_X2 hown hK hP 0 rfl rfl 2 (by decide) (hts (.fieldLink RX0 28 "OilPush$Cylinder" "stroke" "I") (List.mem_of_getElem? (i := 2) rfl)) (fun _ h => h) rfl dX0_room_5 ?_
  refine lv_imul hx hb dX0_room_8 ?_
  exact retI C hS () rfl (hP.pick [0] rfl) (hD.sub [0] rfl rfl) (Nat.le_of_ble_eq_true rfl) (Nat.le_of_ble_eq_true rfl) dX0_room_9
theorem hc_X0_room_X10 : ∀ w ∈ wsX100, w ∈ wsX0_room := fun w h => List.mem_cons_of_mem _ (List.mem_append_right _ h)
set_option maxRecDepth 100000 in
set_option maxHeartbeats 4000000 in
theorem y10_room (l : Launch) (g : Gt) (b : Nat) (lr : Nat) (num : Int32) (ar : Int32) (sk : Int32) (lc : Int32) (cr : Int32) (fl : Int32)  : Ctr l g yX0_room wsX0_room ({ frames := 0, cells := 0, slots := 0, locals := 0 } : Room) [.ref b] [(b, .inr (10, [.int num, .int ar, .int sk, .ref lr, .int lc, .int cr, .int fl]))] (fun A => QI g A (fun r (_ : Unit) => r = (ar * sk)) (fun _u : Unit => [(b, .inr (10, [.int num, .int ar, .int sk, .ref lr, .int lc, .int cr, .int fl]))])) := by
  refine Ctr.of (cc := cX0_room) (maxL := 1) (ret := (some .int)) (by decide) rfl (Nat.le_of_ble_eq_true rfl) ?_
  intro p e s m below meth c A ls H C hP hD hA hS hl
  obtain ⟨hx, hb, hr, hts, hown, hlocks, hml, hin, hKN⟩ := id C
  have hK := hKN.1
  have hN := hKN.2
  have F : CallFix p m c cX0_room 1 s _ wsX0_room yX0_room.cls := ⟨hx, hb, hml, hown, hts⟩
  have hl : lv_has ls 1 [(0, .ref b)] := hl
  refine lv_aload_n hx hb dX0_room_0 rfl (lv_at hl 0 rfl) ?_
  refine va_get (D := g.1) (ci := 10) (v := .int ar) (C := RX10) (T := TX10) (N := 7) hx hb hts hc_X0_room_X10 hown hK hP 0 rfl rfl 1 (by decide) (hts (.fieldLink RX0 25 "OilPush$Cylinder" "area" "I") (List.mem_of_getElem? (i := 1) rfl)) (fun _ h => h) rfl dX0_room_1 ?_
  refine lv_aload_n hx hb dX0_room_4 rfl (lv_at hl 0 rfl) ?_
  refine va_get (D := g.1) (ci := 10) (v := .int sk) (C := RX10) (T := TX10) (N := 7) hx hb hts hc_X0_room_X10 hown hK hP 0 rfl rfl 2 (by decide) (hts (.fieldLink RX0 28 "OilPush$Cylinder" "stroke" "I") (List.mem_of_getElem? (i := 2) rfl)) (fun _ h => h) rfl dX0_room_5 ?_
  refine lv_imul hx hb dX0_room_8 ?_
  exact retI C hS () rfl (hP.pick [0] rfl) (hD.sub [0] rfl rfl) (Nat.le_of_ble_eq_true rfl) (Nat.le_of_ble_eq_true rfl) dX0_room_9
theorem hc_X0_loadAt_X0 : ∀ w ∈ wsX00, w ∈ wsX0_loadAt := fun w h => List.mem_cons_of_mem _ (List.mem_append_left _ (List.mem_append_left _ (List.mem_append_right _ h)))
def r_y0_loadAt (ar : Int32) (sk : Int32) (lc : Int32) (row : Nat → Int32) (oil : Int32) : Int32 := (if 0 < (ar * sk) then (r_c_get 10 row (if (lc - 1) < ((oil * lc) / (ar * sk)) then (lc - 1) else ((oil * lc) / (ar * sk)))) else 0)
set_option maxRecDepth 100000 in
set_option maxHeartbeats 4000000 in
theorem y0_loadAt (l : Launch) (g : Gt) (b : Nat) (lr : Nat) (num : Int32) (ar : Int32) (sk : Int32) (lc : Int32) (cr : Int32) (fl : Int32) (row : Nat → Int32) (oil : Int32)  : Ctr l g yX0_loadAt wsX0_loadAt ({ frames := 1, cells := 0, slots := 0, locals := 21 } : Room) [.ref b, .int oil] [(b, .inr (0, [.int num, .int ar, .int sk, .ref lr, .int lc, .int cr, .int fl])), (lr, .inl (g.2 0, 10, .inl row))] (fun A => QI g A (fun r (_ : Unit) => r = (r_y0_loadAt ar sk lc row oil)) (fun _u : Unit => [(b, .inr (0, [.int num, .int ar, .int sk, .ref lr, .int lc, .int cr, .int fl])), (lr, .inl (g.2 0, 10, .inl row))])) := by
  refine Ctr.of (cc := cX0_loadAt) (maxL := 3) (ret := (some .int)) (by decide) rfl (Nat.le_of_ble_eq_true rfl) ?_
  intro p e s m below meth c A ls H C hP hD hA hS hl
  obtain ⟨hx, hb, hr, hts, hown, hlocks, hml, hin, hKN⟩ := id C
  have hK := hKN.1
  have hN := hKN.2
  have F : CallFix p m c cX0_loadAt 3 s _ wsX0_loadAt yX0_loadAt.cls := ⟨hx, hb, hml, hown, hts⟩
  have hl : lv_has ls 3 [(0, .ref b), (1, .int oil)] := hl
  refine lv_aload_n hx hb dX0_loadAt_0 rfl (lv_at hl 0 rfl) ?_
  refine kI (rnV (As := []) (rest := []) (Cn := RX0) C (y0_room l g b lr num ar sk lc cr fl) 0 gX0_loadAt_X0_room rfl (by decide +kernel) ⟨(Nat.le_of_ble_eq_true rfl), (Nat.le_of_ble_eq_true rfl)⟩ hP (k := 0) (ci := 0) rfl rfl rfl rfl hl.1 rfl (Nat.le_of_ble_eq_true rfl) dX0_loadAt_1 ⟨(Nat.le_of_ble_eq_true rfl), (Nat.le_of_ble_eq_true rfl)⟩) (spM0 [true, false] hP hD rfl) hA hS (fun r1 u2 H locs hw hP hD hS => ?_)
  have hre := hw
  replace hP : va_P g.1 vwCl [(b, .inr (0, [.int num, .int ar, .int sk, .ref lr, .int lc, .int cr, .int fl])), (lr, .inl (g.2 0, 10, .inl row))] H := hP
  replace hD : va_D A [(b, .inr (0, [.int num, .int ar, .int sk, .ref lr, .int lc, .int cr, .int fl])), (lr, .inl (g.2 0, 10, .inl row))] := hD
  refine nx_i (v := (ar * sk)) hre ?_
  refine lv_istore_n (lv' := [(2, .int (ar * sk)), (0, .ref b), (1, .int oil)]) hx hb dX0_loadAt_4 rfl hl (by decide) rfl (fun ls hl => ?_)
  refine lv_iload_n hx hb dX0_loadAt_5 rfl (lv_at hl 0 rfl) ?_
  refine lv_if_gt (tgt := 11) hx hb dX0_loadAt_6 (by decide) (fun c3 => ?_) (fun c3 => ?_)
  · refine lv_aload_n hx hb dX0_loadAt_11 rfl (lv_at hl 1 rfl) ?_
    refine va_get (D := g.1) (ci := 0) (v := .ref lr) (C := RX0) (T := TX0) (N := 7) hx hb hts hc_X0_loadAt_X0 hown hK hP 0 rfl rfl 3 (by decide) (hts (.fieldLink RX0 9 "OilPush$Cylinder" "loads" "[I") (List.mem_of_getElem? (i := 1) rfl)) (fun _ h => h) rfl dX0_loadAt_12 ?_
    refine lv_iload_n hx hb dX0_loadAt_15 rfl (lv_at hl 2 rfl) ?_
    refine lv_aload_n hx hb dX0_loadAt_16 rfl (lv_at hl 1 rfl) ?_
    refine va_get (D := g.1) (ci := 0) (v := .int lc) (C := RX0) (T := TX0) (N := 7) hx hb hts hc_X0_loadAt_X0 hown hK hP 0 rfl rfl 4 (by decide) (hts (.fieldLink RX0 15 "OilPush$Cylinder" "loadCount" "I") (List.mem_of_getElem? (i := 2) rfl)) (fun _ h => h) rfl dX0_loadAt_17 ?_
    refine lv_imul hx hb dX0_loadAt_20 ?_
    refine lv_iload_n hx hb dX0_loadAt_21 rfl (lv_at hl 0 rfl) ?_
    refine lv_idiv hx hb dX0_loadAt_22 (lt0_ne c3) ?_
    refine lv_aload_n hx hb dX0_loadAt_23 rfl (lv_at hl 1 rfl) ?_
    refine va_get (D := g.1) (ci := 0) (v := .int lc) (C := RX0) (T := TX0) (N := 7) hx hb hts hc_X0_loadAt_X0 hown hK hP 0 rfl rfl 4 (by decide) (hts (.fieldLink RX0 15 "OilPush$Cylinder" "loadCount" "I") (List.mem_of_getElem? (i := 2) rfl)) (fun _ h => h) rfl dX0_loadAt_24 ?_
    refine lv_iconst (v := 1) hx hb dX0_loadAt_27 (by decide) ?_
    refine lv_isub hx hb dX0_loadAt_28 ?_
    refine va_mmin (x := ((oil * lc) / (ar * sk))) (y := (lc - 1)) hx hb (by rw [hml]; exact hl.1.symm) hown (hts (.methodLink RX0 35 Lib.Math.min.name) (List.mem_of_getElem? (i := 3) rfl)) (hts (.static Lib.Math.min.name) (List.mem_of_getElem? (i := 4) rfl)) (hts (.initialized "java/lang/Math") (List.mem_of_getElem? (i := 5) rfl)) (hts (.code Lib.Math.min.name Lib.Math.min.code 2 (some .int)) (List.mem_of_getElem? (i := 6) rfl)) (Nat.le_of_ble_eq_true rfl) (Nat.le_of_ble_eq_true rfl) (Nat.le_of_ble_eq_true rfl) (Nat.le_of_ble_eq_true rfl) dX0_loadAt_29 ?_
    refine kI (rnN (host := "OilPush") (As := [.ref lr, .int (if (lc - 1) < ((oil * lc) / (ar * sk)) then (lc - 1) else ((oil * lc) / (ar * sk)))]) (rest := []) C (c_get l g lr 10 row (if (lc - 1) < ((oil * lc) / (ar * sk)) then (lc - 1) else ((oil * lc) / (ar * sk))) (by decide)) 2 gX0_loadAt_X11_get_n41 rfl (nst_10 hN) (by decide +kernel) (by decide +kernel) (by decide +kernel) ⟨(Nat.le_of_ble_eq_true rfl), (Nat.le_of_ble_eq_true rfl)⟩ rfl hl.1 rfl (Nat.le_of_ble_eq_true rfl) dX0_loadAt_32 ⟨(Nat.le_of_ble_eq_true rfl), (Nat.le_of_ble_eq_true rfl)⟩) (spM0 [false, true] hP hD rfl) hA hS (fun r4 u5 H locs hw hP hD hS => ?_)
    have hre := hw
    replace hP : va_P g.1 vwCl [(b, .inr (0, [.int num, .int ar, .int sk, .ref lr, .int lc, .int cr, .int fl])), (lr, .inl (g.2 0, 10, .inl row))] H := hP
    replace hD : va_D A [(b, .inr (0, [.int num, .int ar, .int sk, .ref lr, .int lc, .int cr, .int fl])), (lr, .inl (g.2 0, 10, .inl row))] := hD
    refine nx_i (v := (r_c_get 10 row (if (lc - 1) < ((oil * lc) / (ar * sk)) then (lc - 1) else ((oil * lc) / (ar * sk))))) hre ?_
    exact retI C hS () (by unfold r_y0_loadAt; rw [if_pos c3]) (hP.pick [0, 1] rfl) (hD.sub [0, 1] rfl rfl) (Nat.le_of_ble_eq_true rfl) (Nat.le_of_ble_eq_true rfl) dX0_loadAt_35
  refine lv_iconst (v := 0) hx hb dX0_loadAt_9 (by decide) ?_
  exact retI C hS () (by unfold r_y0_loadAt; rw [if_neg c3]) (hP.pick [0, 1] rfl) (hD.sub [0, 1] rfl rfl) (Nat.le_of_ble_eq_true rfl) (Nat.le_of_ble_eq_true rfl) dX0_loadAt_10
theorem hc_X0_loadAt_X2 : ∀ w ∈ wsX20, w ∈ wsX0_loadAt := fun w h => List.mem_cons_of_mem _ (List.mem_append_left _ (List.mem_append_right _ h))
def r_y2_loadAt (ar : Int32) (sk : Int32) (lc : Int32) (row : Nat → Int32) (oil : Int32) : Int32 := (if 0 < (ar * sk) then (r_c_get 10 row (if (lc - 1) < ((oil * lc) / (ar * sk)) then (lc - 1) else ((oil * lc) / (ar * sk)))) else 0)
set_option maxRecDepth 100000 in
set_option maxHeartbeats 4000000 in
theorem y2_loadAt (l : Launch) (g : Gt) (b : Nat) (lr : Nat) (num : Int32) (ar : Int32) (sk : Int32) (lc : Int32) (cr : Int32) (fl : Int32) (row : Nat → Int32) (oil : Int32)  : Ctr l g yX0_loadAt wsX0_loadAt ({ frames := 1, cells := 0, slots := 0, locals := 21 } : Room) [.ref b, .int oil] [(b, .inr (2, [.int num, .int ar, .int sk, .ref lr, .int lc, .int cr, .int fl])), (lr, .inl (g.2 0, 10, .inl row))] (fun A => QI g A (fun r (_ : Unit) => r = (r_y2_loadAt ar sk lc row oil)) (fun _u : Unit => [(b, .inr (2, [.int num, .int ar, .int sk, .ref lr, .int lc, .int cr, .int fl])), (lr, .inl (g.2 0, 10, .inl row))])) := by
  refine Ctr.of (cc := cX0_loadAt) (maxL := 3) (ret := (some .int)) (by decide) rfl (Nat.le_of_ble_eq_true rfl) ?_
  intro p e s m below meth c A ls H C hP hD hA hS hl
  obtain ⟨hx, hb, hr, hts, hown, hlocks, hml, hin, hKN⟩ := id C
  have hK := hKN.1
  have hN := hKN.2
  have F : CallFix p m c cX0_loadAt 3 s _ wsX0_loadAt yX0_loadAt.cls := ⟨hx, hb, hml, hown, hts⟩
  have hl : lv_has ls 3 [(0, .ref b), (1, .int oil)] := hl
  refine lv_aload_n hx hb dX0_loadAt_0 rfl (lv_at hl 0 rfl) ?_
  refine kI (rnU (As := []) (rest := []) (Cn := RX2) C (y2_room l g b lr num ar sk lc cr fl) 0 gX0_loadAt_X0_room_u31X2 rfl rfl (by decide +kernel) ⟨(Nat.le_of_ble_eq_true rfl), (Nat.le_of_ble_eq_true rfl)⟩ hP (k := 0) (ci := 2) rfl rfl rfl rfl hl.1 rfl (Nat.le_of_ble_eq_true rfl) dX0_loadAt_1 ⟨(Nat.le_of_ble_eq_true rfl), (Nat.le_of_ble_eq_true rfl)⟩) (spM0 [true, false] hP hD rfl) hA hS (fun r1 u2 H locs hw hP hD hS => ?_)
  have hre := hw
  replace hP : va_P g.1 vwCl [(b, .inr (2, [.int num, .int ar, .int sk, .ref lr, .int lc, .int cr, .int fl])), (lr, .inl (g.2 0, 10, .inl row))] H := hP
  replace hD : va_D A [(b, .inr (2, [.int num, .int ar, .int sk, .ref lr, .int lc, .int cr, .int fl])), (lr, .inl (g.2 0, 10, .inl row))] := hD
  refine nx_i (v := (ar * sk)) hre ?_
  refine lv_istore_n (lv' := [(2, .int (ar * sk)), (0, .ref b), (1, .int oil)]) hx hb dX0_loadAt_4 rfl hl (by decide) rfl (fun ls hl => ?_)
  refine lv_iload_n hx hb dX0_loadAt_5 rfl (lv_at hl 0 rfl) ?_
  refine lv_if_gt (tgt := 11) hx hb dX0_loadAt_6 (by decide) (fun c3 => ?_) (fun c3 => ?_)
  · refine lv_aload_n hx hb dX0_loadAt_11 rfl (lv_at hl 1 rfl) ?_
    refine va_get (D := g.1) (ci := 2) (v := .ref lr) (C := RX2) (T := TX2) (N := 7) hx hb hts hc_X0_loadAt_X2 hown hK hP 0 rfl rfl 3 (by decide) (hts (.fieldLink RX0 9 "OilPush$Cylinder" "loads" "[I") (List.mem_of_getElem? (i := 1) rfl)) (fun _ h => h) rfl dX0_loadAt_12 ?_
    refine lv_iload_n hx hb dX0_loadAt_15 rfl (lv_at hl 2 rfl) ?_
    refine lv_aload_n hx hb dX0_loadAt_16 rfl (lv_at hl 1 rfl) ?_
    refine va_get (D := g.1) (ci := 2) (v := .int lc) (C := RX2) (T := TX2) (N := 7) hx hb hts hc_X0_loadAt_X2 hown hK hP 0 rfl rfl 4 (by decide) (hts (.fieldLink RX0 15 "OilPush$Cylinder" "loadCount" "I") (List.mem_of_getElem? (i := 2) rfl)) (fun _ h => h) rfl dX0_loadAt_17 ?_
    refine lv_imul hx hb dX0_loadAt_20 ?_
    refine lv_iload_n hx hb dX0_loadAt_21 rfl (lv_at hl 0 rfl) ?_
    refine lv_idiv hx hb dX0_loadAt_22 (lt0_ne c3) ?_
    refine lv_aload_n hx hb dX0_loadAt_23 rfl (lv_at hl 1 rfl) ?_
    refine va_get (D := g.1) (ci := 2) (v := .int lc) (C := RX2) (T := TX2) (N := 7) hx hb hts hc_X0_loadAt_X2 hown hK hP 0 rfl rfl 4 (by decide) (hts (.fieldLink RX0 15 "OilPush$Cylinder" "loadCount" "I") (List.mem_of_getElem? (i := 2) rfl)) (fun _ h => h) rfl dX0_loadAt_24 ?_
    refine lv_iconst (v := 1) hx hb dX0_loadAt_27 (by decide) ?_
    refine lv_isub hx hb dX0_loadAt_28 ?_
    refine va_mmin (x := ((oil * lc) / (ar * sk))) (y := (lc - 1)) hx hb (by rw [hml]; exact hl.1.symm) hown (hts (.methodLink RX0 35 Lib.Math.min.name) (List.mem_of_getElem? (i := 3) rfl)) (hts (.static Lib.Math.min.name) (List.mem_of_getElem? (i := 4) rfl)) (hts (.initialized "java/lang/Math") (List.mem_of_getElem? (i := 5) rfl)) (hts (.code Lib.Math.min.name Lib.Math.min.code 2 (some .int)) (List.mem_of_getElem? (i := 6) rfl)) (Nat.le_of_ble_eq_true rfl) (Nat.le_of_ble_eq_true rfl) (Nat.le_of_ble_eq_true rfl) (Nat.le_of_ble_eq_true rfl) dX0_loadAt_29 ?_
    refine kI (rnN (host := "OilPush") (As := [.ref lr, .int (if (lc - 1) < ((oil * lc) / (ar * sk)) then (lc - 1) else ((oil * lc) / (ar * sk)))]) (rest := []) C (c_get l g lr 10 row (if (lc - 1) < ((oil * lc) / (ar * sk)) then (lc - 1) else ((oil * lc) / (ar * sk))) (by decide)) 2 gX0_loadAt_X11_get_n41 rfl (nst_10 hN) (by decide +kernel) (by decide +kernel) (by decide +kernel) ⟨(Nat.le_of_ble_eq_true rfl), (Nat.le_of_ble_eq_true rfl)⟩ rfl hl.1 rfl (Nat.le_of_ble_eq_true rfl) dX0_loadAt_32 ⟨(Nat.le_of_ble_eq_true rfl), (Nat.le_of_ble_eq_true rfl)⟩) (spM0 [false, true] hP hD rfl) hA hS (fun r4 u5 H locs hw hP hD hS => ?_)
    have hre := hw
    replace hP : va_P g.1 vwCl [(b, .inr (2, [.int num, .int ar, .int sk, .ref lr, .int lc, .int cr, .int fl])), (lr, .inl (g.2 0, 10, .inl row))] H := hP
    replace hD : va_D A [(b, .inr (2, [.int num, .int ar, .int sk, .ref lr, .int lc, .int cr, .int fl])), (lr, .inl (g.2 0, 10, .inl row))] := hD
    refine nx_i (v := (r_c_get 10 row (if (lc - 1) < ((oil * lc) / (ar * sk)) then (lc - 1) else ((oil * lc) / (ar * sk))))) hre ?_
    exact retI C hS () (by unfold r_y2_loadAt; rw [if_pos c3]) (hP.pick [0, 1] rfl) (hD.sub [0, 1] rfl rfl) (Nat.le_of_ble_eq_true rfl) (Nat.le_of_ble_eq_true rfl) dX0_loadAt_35
  refine lv_iconst (v := 0) hx hb dX0_loadAt_9 (by decide) ?_
  exact retI C hS () (by unfold r_y2_loadAt; rw [if_neg c3]) (hP.pick [0, 1] rfl) (hD.sub [0, 1] rfl rfl) (Nat.le_of_ble_eq_true rfl) (Nat.le_of_ble_eq_true rfl) dX0_loadAt_10
theorem hc_X0_loadAt_X10 : ∀ w ∈ wsX100, w ∈ wsX0_loadAt := fun w h => List.mem_cons_of_mem _ (List.mem_append_right _ h)
def r_y10_loadAt (ar : Int32) (sk : Int32) (lc : Int32) (row : Nat → Int32) (oil : Int32) : Int32 := (if 0 < (ar * sk) then (r_c_get 10 row (if (lc - 1) < ((oil * lc) / (ar * sk)) then (lc - 1) else ((oil * lc) / (ar * sk)))) else 0)
set_option maxRecDepth 100000 in
set_option maxHeartbeats 4000000 in
theorem y10_loadAt (l : Launch) (g : Gt) (b : Nat) (lr : Nat) (num : Int32) (ar : Int32) (sk : Int32) (lc : Int32) (cr : Int32) (fl : Int32) (row : Nat → Int32) (oil : Int32)  : Ctr l g yX0_loadAt wsX0_loadAt ({ frames := 1, cells := 0, slots := 0, locals := 21 } : Room) [.ref b, .int oil] [(b, .inr (10, [.int num, .int ar, .int sk, .ref lr, .int lc, .int cr, .int fl])), (lr, .inl (g.2 0, 10, .inl row))] (fun A => QI g A (fun r (_ : Unit) => r = (r_y10_loadAt ar sk lc row oil)) (fun _u : Unit => [(b, .inr (10, [.int num, .int ar, .int sk, .ref lr, .int lc, .int cr, .int fl])), (lr, .inl (g.2 0, 10, .inl row))])) := by
  refine Ctr.of (cc := cX0_loadAt) (maxL := 3) (ret := (some .int)) (by decide) rfl (Nat.le_of_ble_eq_true rfl) ?_
  intro p e s m below meth c A ls H C hP hD hA hS hl
  obtain ⟨hx, hb, hr, hts, hown, hlocks, hml, hin, hKN⟩ := id C
  have hK := hKN.1
  have hN := hKN.2
  have F : CallFix p m c cX0_loadAt 3 s _ wsX0_loadAt yX0_loadAt.cls := ⟨hx, hb, hml, hown, hts⟩
  have hl : lv_has ls 3 [(0, .ref b), (1, .int oil)] := hl
  refine lv_aload_n hx hb dX0_loadAt_0 rfl (lv_at hl 0 rfl) ?_
  refine kI (rnU (As := []) (rest := []) (Cn := RX10) C (y10_room l g b lr num ar sk lc cr fl) 0 gX0_loadAt_X0_room_u31X10 rfl rfl (by decide +kernel) ⟨(Nat.le_of_ble_eq_true rfl), (Nat.le_of_ble_eq_true rfl)⟩ hP (k := 0) (ci := 10) rfl rfl rfl rfl hl.1 rfl (Nat.le_of_ble_eq_true rfl) dX0_loadAt_1 ⟨(Nat.le_of_ble_eq_true rfl), (Nat.le_of_ble_eq_true rfl)⟩) (spM0 [true, false] hP hD rfl) hA hS (fun r1 u2 H locs hw hP hD hS => ?_)
  have hre := hw
  replace hP : va_P g.1 vwCl [(b, .inr (10, [.int num, .int ar, .int sk, .ref lr, .int lc, .int cr, .int fl])), (lr, .inl (g.2 0, 10, .inl row))] H := hP
  replace hD : va_D A [(b, .inr (10, [.int num, .int ar, .int sk, .ref lr, .int lc, .int cr, .int fl])), (lr, .inl (g.2 0, 10, .inl row))] := hD
  refine nx_i (v := (ar * sk)) hre ?_
  refine lv_istore_n (lv' := [(2, .int (ar * sk)), (0, .ref b), (1, .int oil)]) hx hb dX0_loadAt_4 rfl hl (by decide) rfl (fun ls hl => ?_)
  refine lv_iload_n hx hb dX0_loadAt_5 rfl (lv_at hl 0 rfl) ?_
  refine lv_if_gt (tgt := 11) hx hb dX0_loadAt_6 (by decide) (fun c3 => ?_) (fun c3 => ?_)
  · refine lv_aload_n hx hb dX0_loadAt_11 rfl (lv_at hl 1 rfl) ?_
    refine va_get (D := g.1) (ci := 10) (v := .ref lr) (C := RX10) (T := TX10) (N := 7) hx hb hts hc_X0_loadAt_X10 hown hK hP 0 rfl rfl 3 (by decide) (hts (.fieldLink RX0 9 "OilPush$Cylinder" "loads" "[I") (List.mem_of_getElem? (i := 1) rfl)) (fun _ h => h) rfl dX0_loadAt_12 ?_
    refine lv_iload_n hx hb dX0_loadAt_15 rfl (lv_at hl 2 rfl) ?_
    refine lv_aload_n hx hb dX0_loadAt_16 rfl (lv_at hl 1 rfl) ?_
    refine va_get (D := g.1) (ci := 10) (v := .int lc) (C := RX10) (T := TX10) (N := 7) hx hb hts hc_X0_loadAt_X10 hown hK hP 0 rfl rfl 4 (by decide) (hts (.fieldLink RX0 15 "OilPush$Cylinder" "loadCount" "I") (List.mem_of_getElem? (i := 2) rfl)) (fun _ h => h) rfl dX0_loadAt_17 ?_
    refine lv_imul hx hb dX0_loadAt_20 ?_
    refine lv_iload_n hx hb dX0_loadAt_21 rfl (lv_at hl 0 rfl) ?_
    refine lv_idiv hx hb dX0_loadAt_22 (lt0_ne c3) ?_
    refine lv_aload_n hx hb dX0_loadAt_23 rfl (lv_at hl 1 rfl) ?_
    refine va_get (D := g.1) (ci := 10) (v := .int lc) (C := RX10) (T := TX10) (N := 7) hx hb hts hc_X0_loadAt_X10 hown hK hP 0 rfl rfl 4 (by decide) (hts (.fieldLink RX0 15 "OilPush$Cylinder" "loadCount" "I") (List.mem_of_getElem? (i := 2) rfl)) (fun _ h => h) rfl dX0_loadAt_24 ?_
    refine lv_iconst (v := 1) hx hb dX0_loadAt_27 (by decide) ?_
    refine lv_isub hx hb dX0_loadAt_28 ?_
    refine va_mmin (x := ((oil * lc) / (ar * sk))) (y := (lc - 1)) hx hb (by rw [hml]; exact hl.1.symm) hown (hts (.methodLink RX0 35 Lib.Math.min.name) (List.mem_of_getElem? (i := 3) rfl)) (hts (.static Lib.Math.min.name) (List.mem_of_getElem? (i := 4) rfl)) (hts (.initialized "java/lang/Math") (List.mem_of_getElem? (i := 5) rfl)) (hts (.code Lib.Math.min.name Lib.Math.min.code 2 (some .int)) (List.mem_of_getElem? (i := 6) rfl)) (Nat.le_of_ble_eq_true rfl) (Nat.le_of_ble_eq_true rfl) (Nat.le_of_ble_eq_true rfl) (Nat.le_of_ble_eq_true rfl) dX0_loadAt_29 ?_
    refine kI (rnN (host := "OilPush") (As := [.ref lr, .int (if (lc - 1) < ((oil * lc) / (ar * sk)) then (lc - 1) else ((oil * lc) / (ar * sk)))]) (rest := []) C (c_get l g lr 10 row (if (lc - 1) < ((oil * lc) / (ar * sk)) then (lc - 1) else ((oil * lc) / (ar * sk))) (by decide)) 2 gX0_loadAt_X11_get_n41 rfl (nst_10 hN) (by decide +kernel) (by decide +kernel) (by decide +kernel) ⟨(Nat.le_of_ble_eq_true rfl), (Nat.le_of_ble_eq_true rfl)⟩ rfl hl.1 rfl (Nat.le_of_ble_eq_true rfl) dX0_loadAt_32 ⟨(Nat.le_of_ble_eq_true rfl), (Nat.le_of_ble_eq_true rfl)⟩) (spM0 [false, true] hP hD rfl) hA hS (fun r4 u5 H locs hw hP hD hS => ?_)
    have hre := hw
    replace hP : va_P g.1 vwCl [(b, .inr (10, [.int num, .int ar, .int sk, .ref lr, .int lc, .int cr, .int fl])), (lr, .inl (g.2 0, 10, .inl row))] H := hP
    replace hD : va_D A [(b, .inr (10, [.int num, .int ar, .int sk, .ref lr, .int lc, .int cr, .int fl])), (lr, .inl (g.2 0, 10, .inl row))] := hD
    refine nx_i (v := (r_c_get 10 row (if (lc - 1) < ((oil * lc) / (ar * sk)) then (lc - 1) else ((oil * lc) / (ar * sk))))) hre ?_
    exact retI C hS () (by unfold r_y10_loadAt; rw [if_pos c3]) (hP.pick [0, 1] rfl) (hD.sub [0, 1] rfl rfl) (Nat.le_of_ble_eq_true rfl) (Nat.le_of_ble_eq_true rfl) dX0_loadAt_35
  refine lv_iconst (v := 0) hx hb dX0_loadAt_9 (by decide) ?_
  exact retI C hS () (by unfold r_y10_loadAt; rw [if_neg c3]) (hP.pick [0, 1] rfl) (hD.sub [0, 1] rfl rfl) (Nat.le_of_ble_eq_true rfl) (Nat.le_of_ble_eq_true rfl) dX0_loadAt_10
theorem hc_X0_pushAgainst_X0 : ∀ w ∈ wsX00, w ∈ wsX0_pushAgainst := fun w h => List.mem_cons_of_mem _ (List.mem_append_left _ (List.mem_append_left _ (List.mem_append_right _ h)))
def r_y0_pushAgainst (ar : Int32) (load : Int32) : Int32 := (if 0 < ar then (((load + ar) - 1) / ar) else 0)
set_option maxRecDepth 100000 in
set_option maxHeartbeats 4000000 in
theorem y0_pushAgainst (l : Launch) (g : Gt) (b : Nat) (lr : Nat) (num : Int32) (ar : Int32) (sk : Int32) (lc : Int32) (cr : Int32) (fl : Int32) (load : Int32)  : Ctr l g yX0_pushAgainst wsX0_pushAgainst ({ frames := 0, cells := 0, slots := 0, locals := 0 } : Room) [.ref b, .int load] [(b, .inr (0, [.int num, .int ar, .int sk, .ref lr, .int lc, .int cr, .int fl]))] (fun A => QI g A (fun r (_ : Unit) => r = (r_y0_pushAgainst ar load)) (fun _u : Unit => [(b, .inr (0, [.int num, .int ar, .int sk, .ref lr, .int lc, .int cr, .int fl]))])) := by
  refine Ctr.of (cc := cX0_pushAgainst) (maxL := 2) (ret := (some .int)) (by decide) rfl (Nat.le_of_ble_eq_true rfl) ?_
  intro p e s m below meth c A ls H C hP hD hA hS hl
  obtain ⟨hx, hb, hr, hts, hown, hlocks, hml, hin, hKN⟩ := id C
  have hK := hKN.1
  have hN := hKN.2
  have F : CallFix p m c cX0_pushAgainst 2 s _ wsX0_pushAgainst yX0_pushAgainst.cls := ⟨hx, hb, hml, hown, hts⟩
  have hl : lv_has ls 2 [(0, .ref b), (1, .int load)] := hl
  refine lv_aload_n hx hb dX0_pushAgainst_0 rfl (lv_at hl 0 rfl) ?_
  refine va_get (D := g.1) (ci := 0) (v := .int ar) (C := RX0) (T := TX0) (N := 7) hx hb hts hc_X0_pushAgainst_X0 hown hK hP 0 rfl rfl 1 (by decide) (hts (.fieldLink RX0 25 "OilPush$Cylinder" "area" "I") (List.mem_of_getElem? (i := 1) rfl)) (fun _ h => h) rfl dX0_pushAgainst_1 ?_
  refine lv_if_gt (tgt := 11) hx hb dX0_pushAgainst_4 (by decide) (fun c1 => ?_) (fun c1 => ?_)
  · refine lv_iload_n hx hb dX0_pushAgainst_11 rfl (lv_at hl 1 rfl) ?_
    refine lv_aload_n hx hb dX0_pushAgainst_12 rfl (lv_at hl 0 rfl) ?_
    refine va_get (D := g.1) (ci := 0) (v := .int ar) (C := RX0) (T := TX0) (N := 7) hx hb hts hc_X0_pushAgainst_X0 hown hK hP 0 rfl rfl 1 (by decide) (hts (.fieldLink RX0 25 "OilPush$Cylinder" "area" "I") (List.mem_of_getElem? (i := 1) rfl)) (fun _ h => h) rfl dX0_pushAgainst_13 ?_
    refine lv_iadd hx hb dX0_pushAgainst_16 ?_
    refine lv_iconst (v := 1) hx hb dX0_pushAgainst_17 (by decide) ?_
    refine lv_isub hx hb dX0_pushAgainst_18 ?_
    refine lv_aload_n hx hb dX0_pushAgainst_19 rfl (lv_at hl 0 rfl) ?_
    refine va_get (D := g.1) (ci := 0) (v := .int ar) (C := RX0) (T := TX0) (N := 7) hx hb hts hc_X0_pushAgainst_X0 hown hK hP 0 rfl rfl 1 (by decide) (hts (.fieldLink RX0 25 "OilPush$Cylinder" "area" "I") (List.mem_of_getElem? (i := 1) rfl)) (fun _ h => h) rfl dX0_pushAgainst_20 ?_
    refine lv_idiv hx hb dX0_pushAgainst_23 (lt0_ne c1) ?_
    exact retI C hS () (by unfold r_y0_pushAgainst; rw [if_pos c1]) (hP.pick [0] rfl) (hD.sub [0] rfl rfl) (Nat.le_of_ble_eq_true rfl) (Nat.le_of_ble_eq_true rfl) dX0_pushAgainst_24
  refine lv_iconst (v := 0) hx hb dX0_pushAgainst_7 (by decide) ?_
  refine lv_goto (tgt := 24) hx hb dX0_pushAgainst_8 (by decide) ?_
  exact retI C hS () (by unfold r_y0_pushAgainst; rw [if_neg c1]) (hP.pick [0] rfl) (hD.sub [0] rfl rfl) (Nat.le_of_ble_eq_true rfl) (Nat.le_of_ble_eq_true rfl) dX0_pushAgainst_24
theorem hc_X0_pushAgainst_X2 : ∀ w ∈ wsX20, w ∈ wsX0_pushAgainst := fun w h => List.mem_cons_of_mem _ (List.mem_append_left _ (List.mem_append_right _ h))
def r_y2_pushAgainst (ar : Int32) (load : Int32) : Int32 := (if 0 < ar then (((load + ar) - 1) / ar) else 0)
set_option maxRecDepth 100000 in
set_option maxHeartbeats 4000000 in
theorem y2_pushAgainst (l : Launch) (g : Gt) (b : Nat) (lr : Nat) (num : Int32) (ar : Int32) (sk : Int32) (lc : Int32) (cr : Int32) (fl : Int32) (load : Int32)  : Ctr l g yX0_pushAgainst wsX0_pushAgainst ({ frames := 0, cells := 0, slots := 0, locals := 0 } : Room) [.ref b, .int load] [(b, .inr (2, [.int num, .int ar, .int sk, .ref lr, .int lc, .int cr, .int fl]))] (fun A => QI g A (fun r (_ : Unit) => r = (r_y2_pushAgainst ar load)) (fun _u : Unit => [(b, .inr (2, [.int num, .int ar, .int sk, .ref lr, .int lc, .int cr, .int fl]))])) := by
  refine Ctr.of (cc := cX0_pushAgainst) (maxL := 2) (ret := (some .int)) (by decide) rfl (Nat.le_of_ble_eq_true rfl) ?_
  intro p e s m below meth c A ls H C hP hD hA hS hl
  obtain ⟨hx, hb, hr, hts, hown, hlocks, hml, hin, hKN⟩ := id C
  have hK := hKN.1
  have hN := hKN.2
  have F : CallFix p m c cX0_pushAgainst 2 s _ wsX0_pushAgainst yX0_pushAgainst.cls := ⟨hx, hb, hml, hown, hts⟩
  have hl : lv_has ls 2 [(0, .ref b), (1, .int load)] := hl
  refine lv_aload_n hx hb dX0_pushAgainst_0 rfl (lv_at hl 0 rfl) ?_
  refine va_get (D := g.1) (ci := 2) (v := .int ar) (C := RX2) (T := TX2) (N := 7) hx hb hts hc_X0_pushAgainst_X2 hown hK hP 0 rfl rfl 1 (by decide) (hts (.fieldLink RX0 25 "OilPush$Cylinder" "area" "I") (List.mem_of_getElem? (i := 1) rfl)) (fun _ h => h) rfl dX0_pushAgainst_1 ?_
  refine lv_if_gt (tgt := 11) hx hb dX0_pushAgainst_4 (by decide) (fun c1 => ?_) (fun c1 => ?_)
  · refine lv_iload_n hx hb dX0_pushAgainst_11 rfl (lv_at hl 1 rfl) ?_
    refine lv_aload_n hx hb dX0_pushAgainst_12 rfl (lv_at hl 0 rfl) ?_
    refine va_get (D := g.1) (ci := 2) (v := .int ar) (C := RX2) (T := TX2) (N := 7) hx hb hts hc_X0_pushAgainst_X2 hown hK hP 0 rfl rfl 1 (by decide) (hts (.fieldLink RX0 25 "OilPush$Cylinder" "area" "I") (List.mem_of_getElem? (i := 1) rfl)) (fun _ h => h) rfl dX0_pushAgainst_13 ?_
    refine lv_iadd hx hb dX0_pushAgainst_16 ?_
    refine lv_iconst (v := 1) hx hb dX0_pushAgainst_17 (by decide) ?_
    refine lv_isub hx hb dX0_pushAgainst_18 ?_
    refine lv_aload_n hx hb dX0_pushAgainst_19 rfl (lv_at hl 0 rfl) ?_
    refine va_get (D := g.1) (ci := 2) (v := .int ar) (C := RX2) (T := TX2) (N := 7) hx hb hts hc_X0_pushAgainst_X2 hown hK hP 0 rfl rfl 1 (by decide) (hts (.fieldLink RX0 25 "OilPush$Cylinder" "area" "I") (List.mem_of_getElem? (i := 1) rfl)) (fun _ h => h) rfl dX0_pushAgainst_20 ?_
    refine lv_idiv hx hb dX0_pushAgainst_23 (lt0_ne c1) ?_
    exact retI C hS () (by unfold r_y2_pushAgainst; rw [if_pos c1]) (hP.pick [0] rfl) (hD.sub [0] rfl rfl) (Nat.le_of_ble_eq_true rfl) (Nat.le_of_ble_eq_true rfl) dX0_pushAgainst_24
  refine lv_iconst (v := 0) hx hb dX0_pushAgainst_7 (by decide) ?_
  refine lv_goto (tgt := 24) hx hb dX0_pushAgainst_8 (by decide) ?_
  exact retI C hS () (by unfold r_y2_pushAgainst; rw [if_neg c1]) (hP.pick [0] rfl) (hD.sub [0] rfl rfl) (Nat.le_of_ble_eq_true rfl) (Nat.le_of_ble_eq_true rfl) dX0_pushAgainst_24
theorem hc_X0_pushAgainst_X10 : ∀ w ∈ wsX100, w ∈ wsX0_pushAgainst := fun w h => List.mem_cons_of_mem _ (List.mem_append_right _ h)
def r_y10_pushAgainst (ar : Int32) (load : Int32) : Int32 := (if 0 < ar then (((load + ar) - 1) / ar) else 0)
set_option maxRecDepth 100000 in
set_option maxHeartbeats 4000000 in
theorem y10_pushAgainst (l : Launch) (g : Gt) (b : Nat) (lr : Nat) (num : Int32) (ar : Int32) (sk : Int32) (lc : Int32) (cr : Int32) (fl : Int32) (load : Int32)  : Ctr l g yX0_pushAgainst wsX0_pushAgainst ({ frames := 0, cells := 0, slots := 0, locals := 0 } : Room) [.ref b, .int load] [(b, .inr (10, [.int num, .int ar, .int sk, .ref lr, .int lc, .int cr, .int fl]))] (fun A => QI g A (fun r (_ : Unit) => r = (r_y10_pushAgainst ar load)) (fun _u : Unit => [(b, .inr (10, [.int num, .int ar, .int sk, .ref lr, .int lc, .int cr, .int fl]))])) := by
  refine Ctr.of (cc := cX0_pushAgainst) (maxL := 2) (ret := (some .int)) (by decide) rfl (Nat.le_of_ble_eq_true rfl) ?_
  intro p e s m below meth c A ls H C hP hD hA hS hl
  obtain ⟨hx, hb, hr, hts, hown, hlocks, hml, hin, hKN⟩ := id C
  have hK := hKN.1
  have hN := hKN.2
  have F : CallFix p m c cX0_pushAgainst 2 s _ wsX0_pushAgainst yX0_pushAgainst.cls := ⟨hx, hb, hml, hown, hts⟩
  have hl : lv_has ls 2 [(0, .ref b), (1, .int load)] := hl
  refine lv_aload_n hx hb dX0_pushAgainst_0 rfl (lv_at hl 0 rfl) ?_
  refine va_get (D := g.1) (ci := 10) (v := .int ar) (C := RX10) (T := TX10) (N := 7) hx hb hts hc_X0_pushAgainst_X10 hown hK hP 0 rfl rfl 1 (by decide) (hts (.fieldLink RX0 25 "OilPush$Cylinder" "area" "I") (List.mem_of_getElem? (i := 1) rfl)) (fun _ h => h) rfl dX0_pushAgainst_1 ?_
  refine lv_if_gt (tgt := 11) hx hb dX0_pushAgainst_4 (by decide) (fun c1 => ?_) (fun c1 => ?_)
  · refine lv_iload_n hx hb dX0_pushAgainst_11 rfl (lv_at hl 1 rfl) ?_
    refine lv_aload_n hx hb dX0_pushAgainst_12 rfl (lv_at hl 0 rfl) ?_
    refine va_get (D := g.1) (ci := 10) (v := .int ar) (C := RX10) (T := TX10) (N := 7) hx hb hts hc_X0_pushAgainst_X10 hown hK hP 0 rfl rfl 1 (by decide) (hts (.fieldLink RX0 25 "OilPush$Cylinder" "area" "I") (List.mem_of_getElem? (i := 1) rfl)) (fun _ h => h) rfl dX0_pushAgainst_13 ?_
    refine lv_iadd hx hb dX0_pushAgainst_16 ?_
    refine lv_iconst (v := 1) hx hb dX0_pushAgainst_17 (by decide) ?_
    refine lv_isub hx hb dX0_pushAgainst_18 ?_
    refine lv_aload_n hx hb dX0_pushAgainst_19 rfl (lv_at hl 0 rfl) ?_
    refine va_get (D := g.1) (ci := 10) (v := .int ar) (C := RX10) (T := TX10) (N := 7) hx hb hts hc_X0_pushAgainst_X10 hown hK hP 0 rfl rfl 1 (by decide) (hts (.fieldLink RX0 25 "OilPush$Cylinder" "area" "I") (List.mem_of_getElem? (i := 1) rfl)) (fun _ h => h) rfl dX0_pushAgainst_20 ?_
    refine lv_idiv hx hb dX0_pushAgainst_23 (lt0_ne c1) ?_
    exact retI C hS () (by unfold r_y10_pushAgainst; rw [if_pos c1]) (hP.pick [0] rfl) (hD.sub [0] rfl rfl) (Nat.le_of_ble_eq_true rfl) (Nat.le_of_ble_eq_true rfl) dX0_pushAgainst_24
  refine lv_iconst (v := 0) hx hb dX0_pushAgainst_7 (by decide) ?_
  refine lv_goto (tgt := 24) hx hb dX0_pushAgainst_8 (by decide) ?_
  exact retI C hS () (by unfold r_y10_pushAgainst; rw [if_neg c1]) (hP.pick [0] rfl) (hD.sub [0] rfl rfl) (Nat.le_of_ble_eq_true rfl) (Nat.le_of_ble_eq_true rfl) dX0_pushAgainst_24
set_option maxRecDepth 100000 in
set_option maxHeartbeats 4000000 in
theorem y10_pushTwin (l : Launch) (g : Gt) (b : Nat) (lr : Nat) (num : Int32) (ar : Int32) (sk : Int32) (lc : Int32) (cr : Int32) (fl : Int32) (load : Int32)  : Ctr l g yX10_pushAgainst wsX10_pushAgainst ({ frames := 1, cells := 0, slots := 0, locals := 21 } : Room) [.ref b, .int load] [(b, .inr (10, [.int num, .int ar, .int sk, .ref lr, .int lc, .int cr, .int fl]))] (fun A => QI g A (fun r (_ : Unit) => r = (((r_y10_pushAgainst ar load) + 1) / 2)) (fun _u : Unit => [(b, .inr (10, [.int num, .int ar, .int sk, .ref lr, .int lc, .int cr, .int fl]))])) := by
  refine Ctr.of (cc := cX10_pushAgainst) (maxL := 2) (ret := (some .int)) (by decide) rfl (Nat.le_of_ble_eq_true rfl) ?_
  intro p e s m below meth c A ls H C hP hD hA hS hl
  obtain ⟨hx, hb, hr, hts, hown, hlocks, hml, hin, hKN⟩ := id C
  have hK := hKN.1
  have hN := hKN.2
  have F : CallFix p m c cX10_pushAgainst 2 s _ wsX10_pushAgainst yX10_pushAgainst.cls := ⟨hx, hb, hml, hown, hts⟩
  have hl : lv_has ls 2 [(0, .ref b), (1, .int load)] := hl
  refine lv_aload_n hx hb dX10_pushAgainst_0 rfl (lv_at hl 0 rfl) ?_
  refine lv_iload_n hx hb dX10_pushAgainst_1 rfl (lv_at hl 1 rfl) ?_
  refine kI (rnSU2 (As := [.int load]) (rest := []) C (y10_pushAgainst l g b lr num ar sk lc cr fl load) ⟨(Nat.le_of_ble_eq_true rfl), (Nat.le_of_ble_eq_true rfl)⟩ hP (k := 0) rfl rfl hl.1 rfl (Nat.le_of_ble_eq_true rfl) dX10_pushAgainst_2 ⟨(Nat.le_of_ble_eq_true rfl), (Nat.le_of_ble_eq_true rfl)⟩) (spM0 [true] hP hD rfl) hA hS (fun r1 u2 H locs hw hP hD hS => ?_)
  have hre := hw
  replace hP : va_P g.1 vwCl [(b, .inr (10, [.int num, .int ar, .int sk, .ref lr, .int lc, .int cr, .int fl]))] H := hP
  replace hD : va_D A [(b, .inr (10, [.int num, .int ar, .int sk, .ref lr, .int lc, .int cr, .int fl]))] := hD
  refine nx_i (v := (r_y10_pushAgainst ar load)) hre ?_
  refine lv_iconst (v := 1) hx hb dX10_pushAgainst_5 (by decide) ?_
  refine lv_iadd hx hb dX10_pushAgainst_6 ?_
  refine lv_iconst (v := 2) hx hb dX10_pushAgainst_7 (by decide) ?_
  refine lv_idiv hx hb dX10_pushAgainst_8 (by decide) ?_
  exact retI C hS () rfl (hP.pick [0] rfl) (hD.sub [0] rfl rfl) (Nat.le_of_ble_eq_true rfl) (Nat.le_of_ble_eq_true rfl) dX10_pushAgainst_9
theorem hc_X0_needAt_X0 : ∀ w ∈ wsX00, w ∈ wsX0_needAt := fun w h => List.mem_cons_of_mem _ (List.mem_append_left _ (List.mem_append_left _ (List.mem_append_right _ h)))
set_option maxRecDepth 100000 in
set_option maxHeartbeats 4000000 in
theorem y0_needAt (l : Launch) (g : Gt) (b : Nat) (lr : Nat) (num : Int32) (ar : Int32) (sk : Int32) (lc : Int32) (cr : Int32) (fl : Int32) (row : Nat → Int32) (oil : Int32)  : Ctr l g yX0_needAt wsX0_needAt ({ frames := 2, cells := 0, slots := 0, locals := 43 } : Room) [.ref b, .int oil] [(b, .inr (0, [.int num, .int ar, .int sk, .ref lr, .int lc, .int cr, .int fl])), (lr, .inl (g.2 0, 10, .inl row))] (fun A => QI g A (fun r (_ : Unit) => r = ((r_y0_pushAgainst ar (r_y0_loadAt ar sk lc row oil)) + cr)) (fun _u : Unit => [(b, .inr (0, [.int num, .int ar, .int sk, .ref lr, .int lc, .int cr, .int fl])), (lr, .inl (g.2 0, 10, .inl row))])) := by
  refine Ctr.of (cc := cX0_needAt) (maxL := 2) (ret := (some .int)) (by decide) rfl (Nat.le_of_ble_eq_true rfl) ?_
  intro p e s m below meth c A ls H C hP hD hA hS hl
  obtain ⟨hx, hb, hr, hts, hown, hlocks, hml, hin, hKN⟩ := id C
  have hK := hKN.1
  have hN := hKN.2
  have F : CallFix p m c cX0_needAt 2 s _ wsX0_needAt yX0_needAt.cls := ⟨hx, hb, hml, hown, hts⟩
  have hl : lv_has ls 2 [(0, .ref b), (1, .int oil)] := hl
  refine lv_aload_n hx hb dX0_needAt_0 rfl (lv_at hl 0 rfl) ?_
  refine lv_aload_n hx hb dX0_needAt_1 rfl (lv_at hl 0 rfl) ?_
  refine lv_iload_n hx hb dX0_needAt_2 rfl (lv_at hl 1 rfl) ?_
  refine kI (rnV (As := [.int oil]) (rest := [.ref b]) (Cn := RX0) C (y0_loadAt l g b lr num ar sk lc cr fl row oil) 1 gX0_needAt_X0_loadAt rfl (by decide +kernel) ⟨(Nat.le_of_ble_eq_true rfl), (Nat.le_of_ble_eq_true rfl)⟩ hP (k := 0) (ci := 0) rfl rfl rfl rfl hl.1 rfl (Nat.le_of_ble_eq_true rfl) dX0_needAt_3 ⟨(Nat.le_of_ble_eq_true rfl), (Nat.le_of_ble_eq_true rfl)⟩) (spM0 [true, true] hP hD rfl) hA hS (fun r1 u2 H locs hw hP hD hS => ?_)
  have hre := hw
  replace hP : va_P g.1 vwCl [(b, .inr (0, [.int num, .int ar, .int sk, .ref lr, .int lc, .int cr, .int fl])), (lr, .inl (g.2 0, 10, .inl row))] H := hP
  replace hD : va_D A [(b, .inr (0, [.int num, .int ar, .int sk, .ref lr, .int lc, .int cr, .int fl])), (lr, .inl (g.2 0, 10, .inl row))] := hD
  refine nx_i (v := (r_y0_loadAt ar sk lc row oil)) hre ?_
  refine kI (rnV (As := [.int (r_y0_loadAt ar sk lc row oil)]) (rest := []) (Cn := RX0) C (y0_pushAgainst l g b lr num ar sk lc cr fl (r_y0_loadAt ar sk lc row oil)) 1 gX0_needAt_X0_pushAgainst rfl (by decide +kernel) ⟨(Nat.le_of_ble_eq_true rfl), (Nat.le_of_ble_eq_true rfl)⟩ hP (k := 0) (ci := 0) rfl rfl rfl rfl hl.1 rfl (Nat.le_of_ble_eq_true rfl) dX0_needAt_6 ⟨(Nat.le_of_ble_eq_true rfl), (Nat.le_of_ble_eq_true rfl)⟩) (spM0 [true, false] hP hD rfl) hA hS (fun r3 u4 H locs hw hP hD hS => ?_)
  have hre := hw
  replace hP : va_P g.1 vwCl [(b, .inr (0, [.int num, .int ar, .int sk, .ref lr, .int lc, .int cr, .int fl])), (lr, .inl (g.2 0, 10, .inl row))] H := hP
  replace hD : va_D A [(b, .inr (0, [.int num, .int ar, .int sk, .ref lr, .int lc, .int cr, .int fl])), (lr, .inl (g.2 0, 10, .inl row))] := hD
  refine nx_i (v := (r_y0_pushAgainst ar (r_y0_loadAt ar sk lc row oil))) hre ?_
  refine lv_aload_n hx hb dX0_needAt_9 rfl (lv_at hl 0 rfl) ?_
  refine va_get (D := g.1) (ci := 0) (v := .int cr) (C := RX0) (T := TX0) (N := 7) hx hb hts hc_X0_needAt_X0 hown hK hP 0 rfl rfl 5 (by decide) (hts (.fieldLink RX0 52 "OilPush$Cylinder" "crack" "I") (List.mem_of_getElem? (i := 1) rfl)) (fun _ h => h) rfl dX0_needAt_10 ?_
  refine lv_iadd hx hb dX0_needAt_13 ?_
  exact retI C hS () rfl (hP.pick [0, 1] rfl) (hD.sub [0, 1] rfl rfl) (Nat.le_of_ble_eq_true rfl) (Nat.le_of_ble_eq_true rfl) dX0_needAt_14
theorem hc_X0_needAt_X2 : ∀ w ∈ wsX20, w ∈ wsX0_needAt := fun w h => List.mem_cons_of_mem _ (List.mem_append_left _ (List.mem_append_right _ h))
set_option maxRecDepth 100000 in
set_option maxHeartbeats 4000000 in
theorem y2_needAt (l : Launch) (g : Gt) (b : Nat) (lr : Nat) (num : Int32) (ar : Int32) (sk : Int32) (lc : Int32) (cr : Int32) (fl : Int32) (row : Nat → Int32) (oil : Int32)  : Ctr l g yX0_needAt wsX0_needAt ({ frames := 2, cells := 0, slots := 0, locals := 43 } : Room) [.ref b, .int oil] [(b, .inr (2, [.int num, .int ar, .int sk, .ref lr, .int lc, .int cr, .int fl])), (lr, .inl (g.2 0, 10, .inl row))] (fun A => QI g A (fun r (_ : Unit) => r = ((r_y2_pushAgainst ar (r_y2_loadAt ar sk lc row oil)) + cr)) (fun _u : Unit => [(b, .inr (2, [.int num, .int ar, .int sk, .ref lr, .int lc, .int cr, .int fl])), (lr, .inl (g.2 0, 10, .inl row))])) := by
  refine Ctr.of (cc := cX0_needAt) (maxL := 2) (ret := (some .int)) (by decide) rfl (Nat.le_of_ble_eq_true rfl) ?_
  intro p e s m below meth c A ls H C hP hD hA hS hl
  obtain ⟨hx, hb, hr, hts, hown, hlocks, hml, hin, hKN⟩ := id C
  have hK := hKN.1
  have hN := hKN.2
  have F : CallFix p m c cX0_needAt 2 s _ wsX0_needAt yX0_needAt.cls := ⟨hx, hb, hml, hown, hts⟩
  have hl : lv_has ls 2 [(0, .ref b), (1, .int oil)] := hl
  refine lv_aload_n hx hb dX0_needAt_0 rfl (lv_at hl 0 rfl) ?_
  refine lv_aload_n hx hb dX0_needAt_1 rfl (lv_at hl 0 rfl) ?_
  refine lv_iload_n hx hb dX0_needAt_2 rfl (lv_at hl 1 rfl) ?_
  refine kI (rnU (As := [.int oil]) (rest := [.ref b]) (Cn := RX2) C (y2_loadAt l g b lr num ar sk lc cr fl row oil) 1 gX0_needAt_X0_loadAt_u45X2 rfl rfl (by decide +kernel) ⟨(Nat.le_of_ble_eq_true rfl), (Nat.le_of_ble_eq_true rfl)⟩ hP (k := 0) (ci := 2) rfl rfl rfl rfl hl.1 rfl (Nat.le_of_ble_eq_true rfl) dX0_needAt_3 ⟨(Nat.le_of_ble_eq_true rfl), (Nat.le_of_ble_eq_true rfl)⟩) (spM0 [true, true] hP hD rfl) hA hS (fun r1 u2 H locs hw hP hD hS => ?_)
  have hre := hw
  replace hP : va_P g.1 vwCl [(b, .inr (2, [.int num, .int ar, .int sk, .ref lr, .int lc, .int cr, .int fl])), (lr, .inl (g.2 0, 10, .inl row))] H := hP
  replace hD : va_D A [(b, .inr (2, [.int num, .int ar, .int sk, .ref lr, .int lc, .int cr, .int fl])), (lr, .inl (g.2 0, 10, .inl row))] := hD
  refine nx_i (v := (r_y2_loadAt ar sk lc row oil)) hre ?_
  refine kI (rnU (As := [.int (r_y2_loadAt ar sk lc row oil)]) (rest := []) (Cn := RX2) C (y2_pushAgainst l g b lr num ar sk lc cr fl (r_y2_loadAt ar sk lc row oil)) 1 gX0_needAt_X0_pushAgainst_u49X2 rfl rfl (by decide +kernel) ⟨(Nat.le_of_ble_eq_true rfl), (Nat.le_of_ble_eq_true rfl)⟩ hP (k := 0) (ci := 2) rfl rfl rfl rfl hl.1 rfl (Nat.le_of_ble_eq_true rfl) dX0_needAt_6 ⟨(Nat.le_of_ble_eq_true rfl), (Nat.le_of_ble_eq_true rfl)⟩) (spM0 [true, false] hP hD rfl) hA hS (fun r3 u4 H locs hw hP hD hS => ?_)
  have hre := hw
  replace hP : va_P g.1 vwCl [(b, .inr (2, [.int num, .int ar, .int sk, .ref lr, .int lc, .int cr, .int fl])), (lr, .inl (g.2 0, 10, .inl row))] H := hP
  replace hD : va_D A [(b, .inr (2, [.int num, .int ar, .int sk, .ref lr, .int lc, .int cr, .int fl])), (lr, .inl (g.2 0, 10, .inl row))] := hD
  refine nx_i (v := (r_y2_pushAgainst ar (r_y2_loadAt ar sk lc row oil))) hre ?_
  refine lv_aload_n hx hb dX0_needAt_9 rfl (lv_at hl 0 rfl) ?_
  refine va_get (D := g.1) (ci := 2) (v := .int cr) (C := RX2) (T := TX2) (N := 7) hx hb hts hc_X0_needAt_X2 hown hK hP 0 rfl rfl 5 (by decide) (hts (.fieldLink RX0 52 "OilPush$Cylinder" "crack" "I") (List.mem_of_getElem? (i := 1) rfl)) (fun _ h => h) rfl dX0_needAt_10 ?_
  refine lv_iadd hx hb dX0_needAt_13 ?_
  exact retI C hS () rfl (hP.pick [0, 1] rfl) (hD.sub [0, 1] rfl rfl) (Nat.le_of_ble_eq_true rfl) (Nat.le_of_ble_eq_true rfl) dX0_needAt_14
theorem hc_X0_needAt_X10 : ∀ w ∈ wsX100, w ∈ wsX0_needAt := fun w h => List.mem_cons_of_mem _ (List.mem_append_right _ h)
set_option maxRecDepth 100000 in
set_option maxHeartbeats 4000000 in
theorem y10_needAt (l : Launch) (g : Gt) (b : Nat) (lr : Nat) (num : Int32) (ar : Int32) (sk : Int32) (lc : Int32) (cr : Int32) (fl : Int32) (row : Nat → Int32) (oil : Int32)  : Ctr l g yX0_needAt wsX0_needAt ({ frames := 2, cells := 0, slots := 0, locals := 43 } : Room) [.ref b, .int oil] [(b, .inr (10, [.int num, .int ar, .int sk, .ref lr, .int lc, .int cr, .int fl])), (lr, .inl (g.2 0, 10, .inl row))] (fun A => QI g A (fun r (_ : Unit) => r = ((((r_y10_pushAgainst ar (r_y10_loadAt ar sk lc row oil)) + 1) / 2) + cr)) (fun _u : Unit => [(b, .inr (10, [.int num, .int ar, .int sk, .ref lr, .int lc, .int cr, .int fl])), (lr, .inl (g.2 0, 10, .inl row))])) := by
  refine Ctr.of (cc := cX0_needAt) (maxL := 2) (ret := (some .int)) (by decide) rfl (Nat.le_of_ble_eq_true rfl) ?_
  intro p e s m below meth c A ls H C hP hD hA hS hl
  obtain ⟨hx, hb, hr, hts, hown, hlocks, hml, hin, hKN⟩ := id C
  have hK := hKN.1
  have hN := hKN.2
  have F : CallFix p m c cX0_needAt 2 s _ wsX0_needAt yX0_needAt.cls := ⟨hx, hb, hml, hown, hts⟩
  have hl : lv_has ls 2 [(0, .ref b), (1, .int oil)] := hl
  refine lv_aload_n hx hb dX0_needAt_0 rfl (lv_at hl 0 rfl) ?_
  refine lv_aload_n hx hb dX0_needAt_1 rfl (lv_at hl 0 rfl) ?_
  refine lv_iload_n hx hb dX0_needAt_2 rfl (lv_at hl 1 rfl) ?_
  refine kI (rnU (As := [.int oil]) (rest := [.ref b]) (Cn := RX10) C (y10_loadAt l g b lr num ar sk lc cr fl row oil) 1 gX0_needAt_X0_loadAt_u45X10 rfl rfl (by decide +kernel) ⟨(Nat.le_of_ble_eq_true rfl), (Nat.le_of_ble_eq_true rfl)⟩ hP (k := 0) (ci := 10) rfl rfl rfl rfl hl.1 rfl (Nat.le_of_ble_eq_true rfl) dX0_needAt_3 ⟨(Nat.le_of_ble_eq_true rfl), (Nat.le_of_ble_eq_true rfl)⟩) (spM0 [true, true] hP hD rfl) hA hS (fun r1 u2 H locs hw hP hD hS => ?_)
  have hre := hw
  replace hP : va_P g.1 vwCl [(b, .inr (10, [.int num, .int ar, .int sk, .ref lr, .int lc, .int cr, .int fl])), (lr, .inl (g.2 0, 10, .inl row))] H := hP
  replace hD : va_D A [(b, .inr (10, [.int num, .int ar, .int sk, .ref lr, .int lc, .int cr, .int fl])), (lr, .inl (g.2 0, 10, .inl row))] := hD
  refine nx_i (v := (r_y10_loadAt ar sk lc row oil)) hre ?_
  refine kI (rnO (As := [.int (r_y10_loadAt ar sk lc row oil)]) (rest := []) (Cn := RX10) C (y10_pushTwin l g b lr num ar sk lc cr fl (r_y10_loadAt ar sk lc row oil)) 1 gX0_needAt_X10_pushAgainst_u49X10 rfl (b0 := cX0_pushAgainst) (m0 := 2) (r1 := (some .int)) (by decide +kernel) (by decide +kernel) ⟨(Nat.le_of_ble_eq_true rfl), (Nat.le_of_ble_eq_true rfl)⟩ hP (k := 0) (ci := 10) rfl rfl rfl rfl hl.1 rfl (Nat.le_of_ble_eq_true rfl) dX0_needAt_6 ⟨(Nat.le_of_ble_eq_true rfl), (Nat.le_of_ble_eq_true rfl)⟩) (spM0 [true, false] hP hD rfl) hA hS (fun r3 u4 H locs hw hP hD hS => ?_)
  have hre := hw
  replace hP : va_P g.1 vwCl [(b, .inr (10, [.int num, .int ar, .int sk, .ref lr, .int lc, .int cr, .int fl])), (lr, .inl (g.2 0, 10, .inl row))] H := hP
  replace hD : va_D A [(b, .inr (10, [.int num, .int ar, .int sk, .ref lr, .int lc, .int cr, .int fl])), (lr, .inl (g.2 0, 10, .inl row))] := hD
  refine nx_i (v := (((r_y10_pushAgainst ar (r_y10_loadAt ar sk lc row oil)) + 1) / 2)) hre ?_
  refine lv_aload_n hx hb dX0_needAt_9 rfl (lv_at hl 0 rfl) ?_
  refine va_get (D := g.1) (ci := 10) (v := .int cr) (C := RX10) (T := TX10) (N := 7) hx hb hts hc_X0_needAt_X10 hown hK hP 0 rfl rfl 5 (by decide) (hts (.fieldLink RX0 52 "OilPush$Cylinder" "crack" "I") (List.mem_of_getElem? (i := 1) rfl)) (fun _ h => h) rfl dX0_needAt_10 ?_
  refine lv_iadd hx hb dX0_needAt_13 ?_
  exact retI C hS () rfl (hP.pick [0, 1] rfl) (hD.sub [0, 1] rfl rfl) (Nat.le_of_ble_eq_true rfl) (Nat.le_of_ble_eq_true rfl) dX0_needAt_14
def r_y0_isAt (ar : Int32) (sk : Int32) (en : Int32) (oil : Int32) : Int32 := (if en = 0 then 1 else (if en = 1 then (if oil = (ar * sk) then 1 else 0) else (if oil = 0 then 1 else 0)))
set_option maxRecDepth 100000 in
set_option maxHeartbeats 4000000 in
theorem y0_isAt (l : Launch) (g : Gt) (b : Nat) (lr : Nat) (num : Int32) (ar : Int32) (sk : Int32) (lc : Int32) (cr : Int32) (fl : Int32) (en : Int32) (oil : Int32)  : Ctr l g yX0_isAt wsX0_isAt ({ frames := 1, cells := 0, slots := 0, locals := 20 } : Room) [.ref b, .int en, .int oil] [(b, .inr (0, [.int num, .int ar, .int sk, .ref lr, .int lc, .int cr, .int fl]))] (fun A => QI g A (fun r (_ : Unit) => r = (r_y0_isAt ar sk en oil)) (fun _u : Unit => [(b, .inr (0, [.int num, .int ar, .int sk, .ref lr, .int lc, .int cr, .int fl]))])) := by
  refine Ctr.of (cc := cX0_isAt) (maxL := 3) (ret := (some .boolean)) (by decide) rfl (Nat.le_of_ble_eq_true rfl) ?_
  intro p e s m below meth c A ls H C hP hD hA hS hl
  obtain ⟨hx, hb, hr, hts, hown, hlocks, hml, hin, hKN⟩ := id C
  have hK := hKN.1
  have hN := hKN.2
  have F : CallFix p m c cX0_isAt 3 s _ wsX0_isAt yX0_isAt.cls := ⟨hx, hb, hml, hown, hts⟩
  have hl : lv_has ls 3 [(0, .ref b), (1, .int en), (2, .int oil)] := hl
  refine lv_iload_n hx hb dX0_isAt_0 rfl (lv_at hl 1 rfl) ?_
  refine lv_if_eq (tgt := 21) hx hb dX0_isAt_1 (by decide) (fun c1 => ?_) (fun c1 => ?_)
  · refine lv_iconst (v := 1) hx hb dX0_isAt_21 (by decide) ?_
    refine lv_goto (tgt := 26) hx hb dX0_isAt_22 (by decide) ?_
    exact retZ C rfl hS () (by unfold r_y0_isAt; rw [if_pos c1]) (hP.pick [0] rfl) (hD.sub [0] rfl rfl) (Nat.le_of_ble_eq_true rfl) (Nat.le_of_ble_eq_true rfl) dX0_isAt_26
  refine lv_iload_n hx hb dX0_isAt_4 rfl (lv_at hl 2 rfl) ?_
  refine lv_iload_n hx hb dX0_isAt_5 rfl (lv_at hl 1 rfl) ?_
  refine lv_iconst (v := 1) hx hb dX0_isAt_6 (by decide) ?_
  refine lv_icmp_ne (tgt := 17) hx hb dX0_isAt_7 (by decide) (fun c2 => ?_) (fun c2 => ?_)
  · refine lv_iconst (v := 0) hx hb dX0_isAt_17 (by decide) ?_
    refine lv_icmp_ne (tgt := 25) hx hb dX0_isAt_18 (by decide) (fun c3 => ?_) (fun c3 => ?_)
    · refine lv_iconst (v := 0) hx hb dX0_isAt_25 (by decide) ?_
      exact retZ C rfl hS () (by unfold r_y0_isAt; rw [if_neg c1, if_neg c2, if_neg c3]) (hP.pick [0] rfl) (hD.sub [0] rfl rfl) (Nat.le_of_ble_eq_true rfl) (Nat.le_of_ble_eq_true rfl) dX0_isAt_26
    refine lv_iconst (v := 1) hx hb dX0_isAt_21 (by decide) ?_
    refine lv_goto (tgt := 26) hx hb dX0_isAt_22 (by decide) ?_
    exact retZ C rfl hS () (by unfold r_y0_isAt; rw [if_neg c1, if_neg c2, if_pos c3]) (hP.pick [0] rfl) (hD.sub [0] rfl rfl) (Nat.le_of_ble_eq_true rfl) (Nat.le_of_ble_eq_true rfl) dX0_isAt_26
  refine lv_aload_n hx hb dX0_isAt_10 rfl (lv_at hl 0 rfl) ?_
  refine kI (rnV (As := []) (rest := [.int oil]) (Cn := RX0) C (y0_room l g b lr num ar sk lc cr fl) 0 gX0_isAt_X0_room rfl (by decide +kernel) ⟨(Nat.le_of_ble_eq_true rfl), (Nat.le_of_ble_eq_true rfl)⟩ hP (k := 0) (ci := 0) rfl rfl rfl rfl hl.1 rfl (Nat.le_of_ble_eq_true rfl) dX0_isAt_11 ⟨(Nat.le_of_ble_eq_true rfl), (Nat.le_of_ble_eq_true rfl)⟩) (spM0 [true] hP hD rfl) hA hS (fun r4 u5 H locs hw hP hD hS => ?_)
  have hre := hw
  replace hP : va_P g.1 vwCl [(b, .inr (0, [.int num, .int ar, .int sk, .ref lr, .int lc, .int cr, .int fl]))] H := hP
  replace hD : va_D A [(b, .inr (0, [.int num, .int ar, .int sk, .ref lr, .int lc, .int cr, .int fl]))] := hD
  refine nx_i (v := (ar * sk)) hre ?_
  refine lv_goto (tgt := 18) hx hb dX0_isAt_14 (by decide) ?_
  refine lv_icmp_ne (tgt := 25) hx hb dX0_isAt_18 (by decide) (fun c6 => ?_) (fun c6 => ?_)
  · refine lv_iconst (v := 0) hx hb dX0_isAt_25 (by decide) ?_
    exact retZ C rfl hS () (by unfold r_y0_isAt; rw [if_neg c1, if_pos c2, if_neg c6]) (hP.pick [0] rfl) (hD.sub [0] rfl rfl) (Nat.le_of_ble_eq_true rfl) (Nat.le_of_ble_eq_true rfl) dX0_isAt_26
  refine lv_iconst (v := 1) hx hb dX0_isAt_21 (by decide) ?_
  refine lv_goto (tgt := 26) hx hb dX0_isAt_22 (by decide) ?_
  exact retZ C rfl hS () (by unfold r_y0_isAt; rw [if_neg c1, if_pos c2, if_pos c6]) (hP.pick [0] rfl) (hD.sub [0] rfl rfl) (Nat.le_of_ble_eq_true rfl) (Nat.le_of_ble_eq_true rfl) dX0_isAt_26
def r_y2_isAt (ar : Int32) (sk : Int32) (en : Int32) (oil : Int32) : Int32 := (if en = 0 then 1 else (if en = 1 then (if oil = (ar * sk) then 1 else 0) else (if oil = 0 then 1 else 0)))
set_option maxRecDepth 100000 in
set_option maxHeartbeats 4000000 in
theorem y2_isAt (l : Launch) (g : Gt) (b : Nat) (lr : Nat) (num : Int32) (ar : Int32) (sk : Int32) (lc : Int32) (cr : Int32) (fl : Int32) (en : Int32) (oil : Int32)  : Ctr l g yX0_isAt wsX0_isAt ({ frames := 1, cells := 0, slots := 0, locals := 20 } : Room) [.ref b, .int en, .int oil] [(b, .inr (2, [.int num, .int ar, .int sk, .ref lr, .int lc, .int cr, .int fl]))] (fun A => QI g A (fun r (_ : Unit) => r = (r_y2_isAt ar sk en oil)) (fun _u : Unit => [(b, .inr (2, [.int num, .int ar, .int sk, .ref lr, .int lc, .int cr, .int fl]))])) := by
  refine Ctr.of (cc := cX0_isAt) (maxL := 3) (ret := (some .boolean)) (by decide) rfl (Nat.le_of_ble_eq_true rfl) ?_
  intro p e s m below meth c A ls H C hP hD hA hS hl
  obtain ⟨hx, hb, hr, hts, hown, hlocks, hml, hin, hKN⟩ := id C
  have hK := hKN.1
  have hN := hKN.2
  have F : CallFix p m c cX0_isAt 3 s _ wsX0_isAt yX0_isAt.cls := ⟨hx, hb, hml, hown, hts⟩
  have hl : lv_has ls 3 [(0, .ref b), (1, .int en), (2, .int oil)] := hl
  refine lv_iload_n hx hb dX0_isAt_0 rfl (lv_at hl 1 rfl) ?_
  refine lv_if_eq (tgt := 21) hx hb dX0_isAt_1 (by decide) (fun c1 => ?_) (fun c1 => ?_)
  · refine lv_iconst (v := 1) hx hb dX0_isAt_21 (by decide) ?_
    refine lv_goto (tgt := 26) hx hb dX0_isAt_22 (by decide) ?_
    exact retZ C rfl hS () (by unfold r_y2_isAt; rw [if_pos c1]) (hP.pick [0] rfl) (hD.sub [0] rfl rfl) (Nat.le_of_ble_eq_true rfl) (Nat.le_of_ble_eq_true rfl) dX0_isAt_26
  refine lv_iload_n hx hb dX0_isAt_4 rfl (lv_at hl 2 rfl) ?_
  refine lv_iload_n hx hb dX0_isAt_5 rfl (lv_at hl 1 rfl) ?_
  refine lv_iconst (v := 1) hx hb dX0_isAt_6 (by decide) ?_
  refine lv_icmp_ne (tgt := 17) hx hb dX0_isAt_7 (by decide) (fun c2 => ?_) (fun c2 => ?_)
  · refine lv_iconst (v := 0) hx hb dX0_isAt_17 (by decide) ?_
    refine lv_icmp_ne (tgt := 25) hx hb dX0_isAt_18 (by decide) (fun c3 => ?_) (fun c3 => ?_)
    · refine lv_iconst (v := 0) hx hb dX0_isAt_25 (by decide) ?_
      exact retZ C rfl hS () (by unfold r_y2_isAt; rw [if_neg c1, if_neg c2, if_neg c3]) (hP.pick [0] rfl) (hD.sub [0] rfl rfl) (Nat.le_of_ble_eq_true rfl) (Nat.le_of_ble_eq_true rfl) dX0_isAt_26
    refine lv_iconst (v := 1) hx hb dX0_isAt_21 (by decide) ?_
    refine lv_goto (tgt := 26) hx hb dX0_isAt_22 (by decide) ?_
    exact retZ C rfl hS () (by unfold r_y2_isAt; rw [if_neg c1, if_neg c2, if_pos c3]) (hP.pick [0] rfl) (hD.sub [0] rfl rfl) (Nat.le_of_ble_eq_true rfl) (Nat.le_of_ble_eq_true rfl) dX0_isAt_26
  refine lv_aload_n hx hb dX0_isAt_10 rfl (lv_at hl 0 rfl) ?_
  refine kI (rnU (As := []) (rest := [.int oil]) (Cn := RX2) C (y2_room l g b lr num ar sk lc cr fl) 0 gX0_isAt_X0_room_u31X2 rfl rfl (by decide +kernel) ⟨(Nat.le_of_ble_eq_true rfl), (Nat.le_of_ble_eq_true rfl)⟩ hP (k := 0) (ci := 2) rfl rfl rfl rfl hl.1 rfl (Nat.le_of_ble_eq_true rfl) dX0_isAt_11 ⟨(Nat.le_of_ble_eq_true rfl), (Nat.le_of_ble_eq_true rfl)⟩) (spM0 [true] hP hD rfl) hA hS (fun r4 u5 H locs hw hP hD hS => ?_)
  have hre := hw
  replace hP : va_P g.1 vwCl [(b, .inr (2, [.int num, .int ar, .int sk, .ref lr, .int lc, .int cr, .int fl]))] H := hP
  replace hD : va_D A [(b, .inr (2, [.int num, .int ar, .int sk, .ref lr, .int lc, .int cr, .int fl]))] := hD
  refine nx_i (v := (ar * sk)) hre ?_
  refine lv_goto (tgt := 18) hx hb dX0_isAt_14 (by decide) ?_
  refine lv_icmp_ne (tgt := 25) hx hb dX0_isAt_18 (by decide) (fun c6 => ?_) (fun c6 => ?_)
  · refine lv_iconst (v := 0) hx hb dX0_isAt_25 (by decide) ?_
    exact retZ C rfl hS () (by unfold r_y2_isAt; rw [if_neg c1, if_pos c2, if_neg c6]) (hP.pick [0] rfl) (hD.sub [0] rfl rfl) (Nat.le_of_ble_eq_true rfl) (Nat.le_of_ble_eq_true rfl) dX0_isAt_26
  refine lv_iconst (v := 1) hx hb dX0_isAt_21 (by decide) ?_
  refine lv_goto (tgt := 26) hx hb dX0_isAt_22 (by decide) ?_
  exact retZ C rfl hS () (by unfold r_y2_isAt; rw [if_neg c1, if_pos c2, if_pos c6]) (hP.pick [0] rfl) (hD.sub [0] rfl rfl) (Nat.le_of_ble_eq_true rfl) (Nat.le_of_ble_eq_true rfl) dX0_isAt_26
def r_y10_isAt (ar : Int32) (sk : Int32) (en : Int32) (oil : Int32) : Int32 := (if en = 0 then 1 else (if en = 1 then (if oil = (ar * sk) then 1 else 0) else (if oil = 0 then 1 else 0)))
set_option maxRecDepth 100000 in
set_option maxHeartbeats 4000000 in
theorem y10_isAt (l : Launch) (g : Gt) (b : Nat) (lr : Nat) (num : Int32) (ar : Int32) (sk : Int32) (lc : Int32) (cr : Int32) (fl : Int32) (en : Int32) (oil : Int32)  : Ctr l g yX0_isAt wsX0_isAt ({ frames := 1, cells := 0, slots := 0, locals := 20 } : Room) [.ref b, .int en, .int oil] [(b, .inr (10, [.int num, .int ar, .int sk, .ref lr, .int lc, .int cr, .int fl]))] (fun A => QI g A (fun r (_ : Unit) => r = (r_y10_isAt ar sk en oil)) (fun _u : Unit => [(b, .inr (10, [.int num, .int ar, .int sk, .ref lr, .int lc, .int cr, .int fl]))])) := by
  refine Ctr.of (cc := cX0_isAt) (maxL := 3) (ret := (some .boolean)) (by decide) rfl (Nat.le_of_ble_eq_true rfl) ?_
  intro p e s m below meth c A ls H C hP hD hA hS hl
  obtain ⟨hx, hb, hr, hts, hown, hlocks, hml, hin, hKN⟩ := id C
  have hK := hKN.1
  have hN := hKN.2
  have F : CallFix p m c cX0_isAt 3 s _ wsX0_isAt yX0_isAt.cls := ⟨hx, hb, hml, hown, hts⟩
  have hl : lv_has ls 3 [(0, .ref b), (1, .int en), (2, .int oil)] := hl
  refine lv_iload_n hx hb dX0_isAt_0 rfl (lv_at hl 1 rfl) ?_
  refine lv_if_eq (tgt := 21) hx hb dX0_isAt_1 (by decide) (fun c1 => ?_) (fun c1 => ?_)
  · refine lv_iconst (v := 1) hx hb dX0_isAt_21 (by decide) ?_
    refine lv_goto (tgt := 26) hx hb dX0_isAt_22 (by decide) ?_
    exact retZ C rfl hS () (by unfold r_y10_isAt; rw [if_pos c1]) (hP.pick [0] rfl) (hD.sub [0] rfl rfl) (Nat.le_of_ble_eq_true rfl) (Nat.le_of_ble_eq_true rfl) dX0_isAt_26
  refine lv_iload_n hx hb dX0_isAt_4 rfl (lv_at hl 2 rfl) ?_
  refine lv_iload_n hx hb dX0_isAt_5 rfl (lv_at hl 1 rfl) ?_
  refine lv_iconst (v := 1) hx hb dX0_isAt_6 (by decide) ?_
  refine lv_icmp_ne (tgt := 17) hx hb dX0_isAt_7 (by decide) (fun c2 => ?_) (fun c2 => ?_)
  · refine lv_iconst (v := 0) hx hb dX0_isAt_17 (by decide) ?_
    refine lv_icmp_ne (tgt := 25) hx hb dX0_isAt_18 (by decide) (fun c3 => ?_) (fun c3 => ?_)
    · refine lv_iconst (v := 0) hx hb dX0_isAt_25 (by decide) ?_
      exact retZ C rfl hS () (by unfold r_y10_isAt; rw [if_neg c1, if_neg c2, if_neg c3]) (hP.pick [0] rfl) (hD.sub [0] rfl rfl) (Nat.le_of_ble_eq_true rfl) (Nat.le_of_ble_eq_true rfl) dX0_isAt_26
    refine lv_iconst (v := 1) hx hb dX0_isAt_21 (by decide) ?_
    refine lv_goto (tgt := 26) hx hb dX0_isAt_22 (by decide) ?_
    exact retZ C rfl hS () (by unfold r_y10_isAt; rw [if_neg c1, if_neg c2, if_pos c3]) (hP.pick [0] rfl) (hD.sub [0] rfl rfl) (Nat.le_of_ble_eq_true rfl) (Nat.le_of_ble_eq_true rfl) dX0_isAt_26
  refine lv_aload_n hx hb dX0_isAt_10 rfl (lv_at hl 0 rfl) ?_
  refine kI (rnU (As := []) (rest := [.int oil]) (Cn := RX10) C (y10_room l g b lr num ar sk lc cr fl) 0 gX0_isAt_X0_room_u31X10 rfl rfl (by decide +kernel) ⟨(Nat.le_of_ble_eq_true rfl), (Nat.le_of_ble_eq_true rfl)⟩ hP (k := 0) (ci := 10) rfl rfl rfl rfl hl.1 rfl (Nat.le_of_ble_eq_true rfl) dX0_isAt_11 ⟨(Nat.le_of_ble_eq_true rfl), (Nat.le_of_ble_eq_true rfl)⟩) (spM0 [true] hP hD rfl) hA hS (fun r4 u5 H locs hw hP hD hS => ?_)
  have hre := hw
  replace hP : va_P g.1 vwCl [(b, .inr (10, [.int num, .int ar, .int sk, .ref lr, .int lc, .int cr, .int fl]))] H := hP
  replace hD : va_D A [(b, .inr (10, [.int num, .int ar, .int sk, .ref lr, .int lc, .int cr, .int fl]))] := hD
  refine nx_i (v := (ar * sk)) hre ?_
  refine lv_goto (tgt := 18) hx hb dX0_isAt_14 (by decide) ?_
  refine lv_icmp_ne (tgt := 25) hx hb dX0_isAt_18 (by decide) (fun c6 => ?_) (fun c6 => ?_)
  · refine lv_iconst (v := 0) hx hb dX0_isAt_25 (by decide) ?_
    exact retZ C rfl hS () (by unfold r_y10_isAt; rw [if_neg c1, if_pos c2, if_neg c6]) (hP.pick [0] rfl) (hD.sub [0] rfl rfl) (Nat.le_of_ble_eq_true rfl) (Nat.le_of_ble_eq_true rfl) dX0_isAt_26
  refine lv_iconst (v := 1) hx hb dX0_isAt_21 (by decide) ?_
  refine lv_goto (tgt := 26) hx hb dX0_isAt_22 (by decide) ?_
  exact retZ C rfl hS () (by unfold r_y10_isAt; rw [if_neg c1, if_pos c2, if_pos c6]) (hP.pick [0] rfl) (hD.sub [0] rfl rfl) (Nat.le_of_ble_eq_true rfl) (Nat.le_of_ble_eq_true rfl) dX0_isAt_26
