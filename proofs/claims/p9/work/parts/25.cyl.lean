theorem hc_X0_room_X0 : ∀ w ∈ wsX00, w ∈ wsX0_room := fun w h => List.mem_cons_of_mem _ (List.mem_append_left _ (List.mem_append_left _ (List.mem_append_right _ h)))
set_option maxRecDepth 100000 in
set_option maxHeartbeats 4000000 in
theorem y0_room (l : Launch) (g : Gt) (b : Nat) (lr : Nat) (num : Int32) (ar : Int32) (sk : Int32) (lc : Int32) (cr : Int32) (fl : Int32)  : Ctr l g yX0_room wsX0_room ({ frames := 0, cells := 0, slots := 0, locals := 0 } : Room) [.ref b] [(b, .inr (0, [.int num, .int ar, .int sk, .ref lr, .int lc, .int cr, .int fl]))] (fun A => QI g A (fun r (_ : Unit) => r = (ar * sk)) (fun _u : Unit => [(b, .inr (0, [.int num, .int ar, .int sk, .ref lr, .int lc, .int cr, .int fl]))])) := by
  refine Ctr.of (cc := cX0_room) (maxL := 1) (ret := (some .int)) (by decide) rfl (Nat.le_of_ble_eq_true rfl) ?_
  intro p e s m below meth c A ls H C hP hD hA hS hl
  obtain ⟨hx, hb, hr, hts, hown, hlocks, hml, hin, hKN⟩ := id C
  have hK := hKN.1
  have hN := hKN.2
  have F : CallFix p m c cX0_room 1 s _ wsX0_room yX0_room.cls := ⟨hx, hb, hml, hown, hts⟩
  have hl : lv_has ls 1 [(0, .ref b)] := hl
  refine lv_aload_n hx hb dX0_room_0 rfl (lv_at hl 0 rfl) ?_
  refine va_get (D := g.1) (ci := 0) (v := .int ar) (C := RX0) (T := TX0) (N := 7) hx hb hts hc_X0_room_X0 hown hK hP 0 rfl rfl 1 (by decide) (hts (.fieldLink RX0 25 "OilPush$Cylinder" "area" "I") (List.mem_of_getElem? (i := 1) rfl)) (fun _ h => h) rfl dX0_room_1 ?_
  refine lv_aload_n hx hb dX0_room_4 rfl (lv_at hl 0 rfl) ?_
  refine va_get (D := g.1) (ci := 0) (v := .int sk) (C := RX0) (T := TX0) (N := 7) hx hb hts hc_X0_room_X0 hown hK hP 0 rfl rfl 2 (by decide) (hts (.fieldLink RX0 28 "OilPush$Cylinder" "stroke" "I") (List.mem_of_getElem? (i := 2) rfl)) (fun _ h => h) rfl dX0_room_5 ?_
  refine lv_imul hx hb dX0_room_8 ?_
  exact retI C hS () rfl (hP.pick [0] rfl) (hD.sub [0] rfl rfl) (Nat.le_of_ble_eq_true rfl) (Nat.le_of_ble_eq_true rfl) dX0_room_9
theorem hc_X0_room_X2 : ∀ w ∈ wsX20, w ∈ wsX0_room := fun w h => List.mem_cons_of_mem _ (List.mem_append_left _ (List.mem_append_right _ h))
set_option maxRecDepth 100000 in
set_option maxHeartbeats 4000000 in
theorem y2_room (l : Launch) (g : Gt) (b : Nat) (lr : Nat) (num : Int32) (ar : Int32) (sk : Int32) (lc : Int32) (cr : Int32) (fl : Int32)  : Ctr l g yX0_room wsX0_room ({ frames := 0, cells := 0, slots := 0, locals := 0 } : Room) [.ref b] [(b, .inr (2, [.int num, .int ar, .int sk, .ref lr, .int lc, .int cr, .int fl]))] (fun A => QI g A (fun r (_ : Unit) => r = (ar * sk)) (fun _u : Unit => [(b, .inr (2, [.int num, .int ar, .int sk, .ref lr, .int lc, .int cr, .int fl]))])) := by
  refine Ctr.of (cc := cX0_room) (maxL := 1) (ret := (some .int)) (by decide) rfl (Nat.le_of_ble_eq_true rfl) ?_
  intro p e s m below meth c A ls H C hP hD hA hS hl
  obtain ⟨hx, hb, hr, hts, hown, hlocks, hml, hin, hKN⟩ := id C
  have hK := hKN.1
  have hN := hKN.2
  have F : CallFix p m c cX0_room 1 s _ wsX0_room yX0_room.cls := ⟨hx, hb, hml, hown, hts⟩
  have hl : lv_has ls 1 [(0, .ref b)] := hl
  refine lv_aload_n hx hb dX0_room_0 rfl (lv_at hl 0 rfl) ?_
  refine va_get (D := g.1) (ci := 2) (v := .int ar) (C := RX2) (T := TX2) (N := 7) hx hb hts hc_X0_room_X2 hown hK hP 0 rfl rfl 1 (by decide) (hts (.fieldLink RX0 25 "OilPush$Cylinder" "area" "I") (List.mem_of_getElem? (i := 1) rfl)) (fun _ h => h) rfl dX0_room_1 ?_
  refine lv_aload_n hx hb dX0_room_4 rfl (lv_at hl 0 rfl) ?_
  refine va_get (D := g.1) (ci := 2) (v := .int sk) (C := RX2) (T := TX2) (N := 7) hx hb hts hc_X0_room_X2 hown hK hP 0 rfl rfl 2 (by decide) (hts (.fieldLink RX0 28 "OilPush$Cylinder" "stroke" "I") (List.mem_of_getElem? (i := 2) rfl)) (fun _ h => h) rfl dX0_room_5 ?_
  refine lv_imul hx hb dX0_room_8 ?_
  exact retI C hS () rfl (hP.pick [0] rfl) (hD.sub [0] rfl rfl) (Nat.le_of_ble_eq_true rfl) (Nat.le_of_ble_eq_true rfl) dX0_room_9
theorem hc_X0_room_X10 : ∀ w ∈ wsX100, w ∈ wsX0_room := fun w h => List.mem_cons_of_mem _ (List.mem_append_right _ h)
set_option maxRecDepth 100000 in
set_option maxHeartbeats 4000000 in
theorem y10_room (l : Launch) (g : Gt) (b : Nat) (lr : Nat) (num : Int32) (ar : Int32) (sk : Int32) (lc : Int32) (cr : Int32) (fl : Int32)  : Ctr l g yX0_room wsX0_room ({ frames := 0, cells := 0, slots := 0, locals := 0 } : Room) [.ref b] [(b, .inr (10, [.int num, .int ar, .int sk, .ref lr, .int lc, .int cr, .int fl]))] (fun A => QI g A (fun r (_ : Unit) => r = (ar * sk)) (fun _u : Unit => [(b, .inr (10, [.int num, .int ar, .int sk, .ref lr, .int lc, .int cr, .int fl]))])) := by
  refine Ctr.of (cc := cX0_room) (maxL := 1) (ret := (some .int)) (by decide) rfl (Nat.le_of_ble_eq_true rfl) ?_
  intro p e s m below meth c A ls H C hP hD hA hS hl
  obtain ⟨hx, hb, hr, hts, hown, hlocks, hml, hin, hKN⟩ := id C
  have hK := hKN.1
  have hN := hKN.2
  have F : CallFix p m c cX0_room 1 s _ wsX0_room yX0_room.cls := ⟨hx, hb, hml, hown, hts⟩
  have hl : lv_has ls 1 [(0, .ref b)] := hl
  refine lv_aload_n hx hb dX0_room_0 rfl (lv_at hl 0 rfl) ?_
  refine va_get (D := g.1) (ci := 10) (v := .int ar) (C := RX10) (T := TX10) (N := 7) hx hb hts hc_X0_room_X10 hown hK hP 0 rfl rfl 1 (by decide) (hts (.fieldLink RX0 25 "OilPush$Cylinder" "area" "I") (List.mem_of_getElem? (i := 1) rfl)) (fun _ h => h) rfl dX0_room_1 ?_
  refine lv_aload_n hx hb dX0_room_4 rfl (lv_at hl 0 rfl) ?_
  refine va_get (D := g.1) (ci := 10) (v := .int sk) (C := RX10) (T := TX10) (N := 7) hx hb hts hc_X0_room_X10 hown hK hP 0 rfl rfl 2 (by decide) (hts (.fieldLink RX0 28 "OilPush$Cylinder" "stroke" "I") (List.mem_of_getElem? (i := 2) rfl)) (fun _ h => h) rfl dX0_room_5 ?_
  refine lv_imul hx hb dX0_room_8 ?_
  exact retI C hS () rfl (hP.pick [0] rfl) (hD.sub [0] rfl rfl) (Nat.le_of_ble_eq_true rfl) (Nat.le_of_ble_eq_true rfl) dX0_room_9
theorem hc_X0_loadAt_X0 : ∀ w ∈ wsX00, w ∈ wsX0_loadAt := fun w h => List.mem_cons_of_mem _ (List.mem_append_left _ (List.mem_append_left _ (List.mem_append_right _ h)))
theorem hc_X0_loadAt_X2 : ∀ w ∈ wsX20, w ∈ wsX0_loadAt := fun w h => List.mem_cons_of_mem _ (List.mem_append_left _ (List.mem_append_right _ h))
theorem hc_X0_loadAt_X10 : ∀ w ∈ wsX100, w ∈ wsX0_loadAt := fun w h => List.mem_cons_of_mem _ (List.mem_append_right _ h)
theorem hc_X0_pushAgainst_X0 : ∀ w ∈ wsX00, w ∈ wsX0_pushAgainst := fun w h => List.mem_cons_of_mem _ (List.mem_append_left _ (List.mem_append_left _ (List.mem_append_right _ h)))
theorem hc_X0_pushAgainst_X2 : ∀ w ∈ wsX20, w ∈ wsX0_pushAgainst := fun w h => List.mem_cons_of_mem _ (List.mem_append_left _ (List.mem_append_right _ h))
theorem hc_X0_pushAgainst_X10 : ∀ w ∈ wsX100, w ∈ wsX0_pushAgainst := fun w h => List.mem_cons_of_mem _ (List.mem_append_right _ h)
theorem hc_X0_needAt_X0 : ∀ w ∈ wsX00, w ∈ wsX0_needAt := fun w h => List.mem_cons_of_mem _ (List.mem_append_left _ (List.mem_append_left _ (List.mem_append_right _ h)))
theorem hc_X0_needAt_X2 : ∀ w ∈ wsX20, w ∈ wsX0_needAt := fun w h => List.mem_cons_of_mem _ (List.mem_append_left _ (List.mem_append_right _ h))
theorem hc_X0_needAt_X10 : ∀ w ∈ wsX100, w ∈ wsX0_needAt := fun w h => List.mem_cons_of_mem _ (List.mem_append_right _ h)
