theorem hc_X0_newCrack_X0 : ∀ w ∈ wsX00, w ∈ wsX0_newCrack := fun w h => List.mem_cons_of_mem _ (List.mem_append_left _ (List.mem_append_left _ (List.mem_append_right _ h)))
set_option maxRecDepth 100000 in
set_option maxHeartbeats 4000000 in
theorem y0_newCrack (l : Launch) (g : Gt) (b : Nat) (lr : Nat) (num : Int32) (ar : Int32) (sk : Int32) (lc : Int32) (cr : Int32) (fl : Int32) (v : Int32)  : Ctr l g yX0_newCrack wsX0_newCrack ({ frames := 0, cells := 0, slots := 0, locals := 0 } : Room) [.ref b, .int v] [(b, .inr (0, [.int num, .int ar, .int sk, .ref lr, .int lc, .int cr, .int fl]))] (fun A => QI g A (fun r (_ : Unit) => r = cr) (fun _u : Unit => [(b, .inr (0, [.int num, .int ar, .int sk, .ref lr, .int lc, .int v, .int fl]))])) := by
  refine Ctr.of (cc := cX0_newCrack) (maxL := 3) (ret := (some .int)) (by decide) rfl (Nat.le_of_ble_eq_true rfl) ?_
  intro p e s m below meth c A ls H C hP hD hA hS hl
  obtain ⟨hx, hb, hr, hts, hown, hlocks, hml, hin, hKN⟩ := id C
  have hK := hKN.1
  have hN := hKN.2
  have F : CallFix p m c cX0_newCrack 3 s _ wsX0_newCrack yX0_newCrack.cls := ⟨hx, hb, hml, hown, hts⟩
  have hl : lv_has ls 3 [(0, .ref b), (1, .int v)] := hl
  refine lv_aload_n hx hb dX0_newCrack_0 rfl (lv_at hl 0 rfl) ?_
  refine va_get (D := g.1) (ci := 0) (v := .int cr) (C := RX0) (T := TX0) (N := 7) hx hb hts hc_X0_newCrack_X0 hown hK hP 0 rfl rfl 5 (by decide) (hts (.fieldLink RX0 52 "OilPush$Cylinder" "crack" "I") (by decide +kernel)) (fun _ h => h) rfl dX0_newCrack_1 ?_
  refine lv_istore_n (lv' := [(2, .int cr), (0, .ref b), (1, .int v)]) hx hb dX0_newCrack_4 rfl hl (by decide) rfl (fun ls hl => ?_)
  refine lv_aload_n hx hb dX0_newCrack_5 rfl (lv_at hl 1 rfl) ?_
  refine lv_iload_n hx hb dX0_newCrack_6 rfl (lv_at hl 2 rfl) ?_
  refine va_put (D := g.1) (ci := 0) (v := .int v) (ty := .int) (C := RX0) (T := TX0) (N := 7) hx hb hts hc_X0_newCrack_X0 tyX0 tyX0_ok nmX0 hown hK hP hD hS 0 rfl rfl 5 (by decide) (hts (.fieldLink RX0 52 "OilPush$Cylinder" "crack" "I") (by decide +kernel)) (fun _ h => h) rfl (by decide +kernel) rfl rfl (Nat.le_of_ble_eq_true rfl) dX0_newCrack_7 (fun H locs hP hD hS => ?_)
  replace hP : va_P g.1 vwCl [(b, .inr (0, [.int num, .int ar, .int sk, .ref lr, .int lc, .int v, .int fl]))] H := hP
  replace hD : va_D A [(b, .inr (0, [.int num, .int ar, .int sk, .ref lr, .int lc, .int v, .int fl]))] := hD
  refine lv_iload_n hx hb dX0_newCrack_10 rfl (lv_at hl 0 rfl) ?_
  exact retI C hS () rfl (hP.pick [0] rfl) (hD.sub [0] rfl rfl) (Nat.le_of_ble_eq_true rfl) (Nat.le_of_ble_eq_true rfl) dX0_newCrack_11
theorem hc_X0_newCrack_X2 : ∀ w ∈ wsX20, w ∈ wsX0_newCrack := fun w h => List.mem_cons_of_mem _ (List.mem_append_left _ (List.mem_append_right _ h))
set_option maxRecDepth 100000 in
set_option maxHeartbeats 4000000 in
theorem y2_newCrack (l : Launch) (g : Gt) (b : Nat) (lr : Nat) (num : Int32) (ar : Int32) (sk : Int32) (lc : Int32) (cr : Int32) (fl : Int32) (v : Int32)  : Ctr l g yX0_newCrack wsX0_newCrack ({ frames := 0, cells := 0, slots := 0, locals := 0 } : Room) [.ref b, .int v] [(b, .inr (2, [.int num, .int ar, .int sk, .ref lr, .int lc, .int cr, .int fl]))] (fun A => QI g A (fun r (_ : Unit) => r = cr) (fun _u : Unit => [(b, .inr (2, [.int num, .int ar, .int sk, .ref lr, .int lc, .int v, .int fl]))])) := by
  refine Ctr.of (cc := cX0_newCrack) (maxL := 3) (ret := (some .int)) (by decide) rfl (Nat.le_of_ble_eq_true rfl) ?_
  intro p e s m below meth c A ls H C hP hD hA hS hl
  obtain ⟨hx, hb, hr, hts, hown, hlocks, hml, hin, hKN⟩ := id C
  have hK := hKN.1
  have hN := hKN.2
  have F : CallFix p m c cX0_newCrack 3 s _ wsX0_newCrack yX0_newCrack.cls := ⟨hx, hb, hml, hown, hts⟩
  have hl : lv_has ls 3 [(0, .ref b), (1, .int v)] := hl
  refine lv_aload_n hx hb dX0_newCrack_0 rfl (lv_at hl 0 rfl) ?_
  refine va_get (D := g.1) (ci := 2) (v := .int cr) (C := RX2) (T := TX2) (N := 7) hx hb hts hc_X0_newCrack_X2 hown hK hP 0 rfl rfl 5 (by decide) (hts (.fieldLink RX0 52 "OilPush$Cylinder" "crack" "I") (by decide +kernel)) (fun _ h => h) rfl dX0_newCrack_1 ?_
  refine lv_istore_n (lv' := [(2, .int cr), (0, .ref b), (1, .int v)]) hx hb dX0_newCrack_4 rfl hl (by decide) rfl (fun ls hl => ?_)
  refine lv_aload_n hx hb dX0_newCrack_5 rfl (lv_at hl 1 rfl) ?_
  refine lv_iload_n hx hb dX0_newCrack_6 rfl (lv_at hl 2 rfl) ?_
  refine va_put (D := g.1) (ci := 2) (v := .int v) (ty := .int) (C := RX2) (T := TX2) (N := 7) hx hb hts hc_X0_newCrack_X2 tyX2 tyX2_ok nmX2 hown hK hP hD hS 0 rfl rfl 5 (by decide) (hts (.fieldLink RX0 52 "OilPush$Cylinder" "crack" "I") (by decide +kernel)) (fun _ h => h) rfl (by decide +kernel) rfl rfl (Nat.le_of_ble_eq_true rfl) dX0_newCrack_7 (fun H locs hP hD hS => ?_)
  replace hP : va_P g.1 vwCl [(b, .inr (2, [.int num, .int ar, .int sk, .ref lr, .int lc, .int v, .int fl]))] H := hP
  replace hD : va_D A [(b, .inr (2, [.int num, .int ar, .int sk, .ref lr, .int lc, .int v, .int fl]))] := hD
  refine lv_iload_n hx hb dX0_newCrack_10 rfl (lv_at hl 0 rfl) ?_
  exact retI C hS () rfl (hP.pick [0] rfl) (hD.sub [0] rfl rfl) (Nat.le_of_ble_eq_true rfl) (Nat.le_of_ble_eq_true rfl) dX0_newCrack_11
theorem hc_X0_newCrack_X10 : ∀ w ∈ wsX100, w ∈ wsX0_newCrack := fun w h => List.mem_cons_of_mem _ (List.mem_append_right _ h)
set_option maxRecDepth 100000 in
set_option maxHeartbeats 4000000 in
theorem y10_newCrack (l : Launch) (g : Gt) (b : Nat) (lr : Nat) (num : Int32) (ar : Int32) (sk : Int32) (lc : Int32) (cr : Int32) (fl : Int32) (v : Int32)  : Ctr l g yX0_newCrack wsX0_newCrack ({ frames := 0, cells := 0, slots := 0, locals := 0 } : Room) [.ref b, .int v] [(b, .inr (10, [.int num, .int ar, .int sk, .ref lr, .int lc, .int cr, .int fl]))] (fun A => QI g A (fun r (_ : Unit) => r = cr) (fun _u : Unit => [(b, .inr (10, [.int num, .int ar, .int sk, .ref lr, .int lc, .int v, .int fl]))])) := by
  refine Ctr.of (cc := cX0_newCrack) (maxL := 3) (ret := (some .int)) (by decide) rfl (Nat.le_of_ble_eq_true rfl) ?_
  intro p e s m below meth c A ls H C hP hD hA hS hl
  obtain ⟨hx, hb, hr, hts, hown, hlocks, hml, hin, hKN⟩ := id C
  have hK := hKN.1
  have hN := hKN.2
  have F : CallFix p m c cX0_newCrack 3 s _ wsX0_newCrack yX0_newCrack.cls := ⟨hx, hb, hml, hown, hts⟩
  have hl : lv_has ls 3 [(0, .ref b), (1, .int v)] := hl
  refine lv_aload_n hx hb dX0_newCrack_0 rfl (lv_at hl 0 rfl) ?_
  refine va_get (D := g.1) (ci := 10) (v := .int cr) (C := RX10) (T := TX10) (N := 7) hx hb hts hc_X0_newCrack_X10 hown hK hP 0 rfl rfl 5 (by decide) (hts (.fieldLink RX0 52 "OilPush$Cylinder" "crack" "I") (by decide +kernel)) (fun _ h => h) rfl dX0_newCrack_1 ?_
  refine lv_istore_n (lv' := [(2, .int cr), (0, .ref b), (1, .int v)]) hx hb dX0_newCrack_4 rfl hl (by decide) rfl (fun ls hl => ?_)
  refine lv_aload_n hx hb dX0_newCrack_5 rfl (lv_at hl 1 rfl) ?_
  refine lv_iload_n hx hb dX0_newCrack_6 rfl (lv_at hl 2 rfl) ?_
  refine va_put (D := g.1) (ci := 10) (v := .int v) (ty := .int) (C := RX10) (T := TX10) (N := 7) hx hb hts hc_X0_newCrack_X10 tyX10 tyX10_ok nmX10 hown hK hP hD hS 0 rfl rfl 5 (by decide) (hts (.fieldLink RX0 52 "OilPush$Cylinder" "crack" "I") (by decide +kernel)) (fun _ h => h) rfl (by decide +kernel) rfl rfl (Nat.le_of_ble_eq_true rfl) dX0_newCrack_7 (fun H locs hP hD hS => ?_)
  replace hP : va_P g.1 vwCl [(b, .inr (10, [.int num, .int ar, .int sk, .ref lr, .int lc, .int v, .int fl]))] H := hP
  replace hD : va_D A [(b, .inr (10, [.int num, .int ar, .int sk, .ref lr, .int lc, .int v, .int fl]))] := hD
  refine lv_iload_n hx hb dX0_newCrack_10 rfl (lv_at hl 0 rfl) ?_
  exact retI C hS () rfl (hP.pick [0] rfl) (hD.sub [0] rfl rfl) (Nat.le_of_ble_eq_true rfl) (Nat.le_of_ble_eq_true rfl) dX0_newCrack_11
theorem hc_X0_newFlow_X0 : ∀ w ∈ wsX00, w ∈ wsX0_newFlow := fun w h => List.mem_cons_of_mem _ (List.mem_append_left _ (List.mem_append_left _ (List.mem_append_right _ h)))
set_option maxRecDepth 100000 in
set_option maxHeartbeats 4000000 in
theorem y0_newFlow (l : Launch) (g : Gt) (b : Nat) (lr : Nat) (num : Int32) (ar : Int32) (sk : Int32) (lc : Int32) (cr : Int32) (fl : Int32) (v : Int32)  : Ctr l g yX0_newFlow wsX0_newFlow ({ frames := 0, cells := 0, slots := 0, locals := 0 } : Room) [.ref b, .int v] [(b, .inr (0, [.int num, .int ar, .int sk, .ref lr, .int lc, .int cr, .int fl]))] (fun A => QI g A (fun r (_ : Unit) => r = fl) (fun _u : Unit => [(b, .inr (0, [.int num, .int ar, .int sk, .ref lr, .int lc, .int cr, .int v]))])) := by
  refine Ctr.of (cc := cX0_newFlow) (maxL := 3) (ret := (some .int)) (by decide) rfl (Nat.le_of_ble_eq_true rfl) ?_
  intro p e s m below meth c A ls H C hP hD hA hS hl
  obtain ⟨hx, hb, hr, hts, hown, hlocks, hml, hin, hKN⟩ := id C
  have hK := hKN.1
  have hN := hKN.2
  have F : CallFix p m c cX0_newFlow 3 s _ wsX0_newFlow yX0_newFlow.cls := ⟨hx, hb, hml, hown, hts⟩
  have hl : lv_has ls 3 [(0, .ref b), (1, .int v)] := hl
  refine lv_aload_n hx hb dX0_newFlow_0 rfl (lv_at hl 0 rfl) ?_
  refine va_get (D := g.1) (ci := 0) (v := .int fl) (C := RX0) (T := TX0) (N := 7) hx hb hts hc_X0_newFlow_X0 hown hK hP 0 rfl rfl 6 (by decide) (hts (.fieldLink RX0 19 "OilPush$Cylinder" "flow" "I") (by decide +kernel)) (fun _ h => h) rfl dX0_newFlow_1 ?_
  refine lv_istore_n (lv' := [(2, .int fl), (0, .ref b), (1, .int v)]) hx hb dX0_newFlow_4 rfl hl (by decide) rfl (fun ls hl => ?_)
  refine lv_aload_n hx hb dX0_newFlow_5 rfl (lv_at hl 1 rfl) ?_
  refine lv_iload_n hx hb dX0_newFlow_6 rfl (lv_at hl 2 rfl) ?_
  refine va_put (D := g.1) (ci := 0) (v := .int v) (ty := .int) (C := RX0) (T := TX0) (N := 7) hx hb hts hc_X0_newFlow_X0 tyX0 tyX0_ok nmX0 hown hK hP hD hS 0 rfl rfl 6 (by decide) (hts (.fieldLink RX0 19 "OilPush$Cylinder" "flow" "I") (by decide +kernel)) (fun _ h => h) rfl (by decide +kernel) rfl rfl (Nat.le_of_ble_eq_true rfl) dX0_newFlow_7 (fun H locs hP hD hS => ?_)
  replace hP : va_P g.1 vwCl [(b, .inr (0, [.int num, .int ar, .int sk, .ref lr, .int lc, .int cr, .int v]))] H := hP
  replace hD : va_D A [(b, .inr (0, [.int num, .int ar, .int sk, .ref lr, .int lc, .int cr, .int v]))] := hD
  refine lv_iload_n hx hb dX0_newFlow_10 rfl (lv_at hl 0 rfl) ?_
  exact retI C hS () rfl (hP.pick [0] rfl) (hD.sub [0] rfl rfl) (Nat.le_of_ble_eq_true rfl) (Nat.le_of_ble_eq_true rfl) dX0_newFlow_11
theorem hc_X0_newFlow_X2 : ∀ w ∈ wsX20, w ∈ wsX0_newFlow := fun w h => List.mem_cons_of_mem _ (List.mem_append_left _ (List.mem_append_right _ h))
set_option maxRecDepth 100000 in
set_option maxHeartbeats 4000000 in
theorem y2_newFlow (l : Launch) (g : Gt) (b : Nat) (lr : Nat) (num : Int32) (ar : Int32) (sk : Int32) (lc : Int32) (cr : Int32) (fl : Int32) (v : Int32)  : Ctr l g yX0_newFlow wsX0_newFlow ({ frames := 0, cells := 0, slots := 0, locals := 0 } : Room) [.ref b, .int v] [(b, .inr (2, [.int num, .int ar, .int sk, .ref lr, .int lc, .int cr, .int fl]))] (fun A => QI g A (fun r (_ : Unit) => r = fl) (fun _u : Unit => [(b, .inr (2, [.int num, .int ar, .int sk, .ref lr, .int lc, .int cr, .int v]))])) := by
  refine Ctr.of (cc := cX0_newFlow) (maxL := 3) (ret := (some .int)) (by decide) rfl (Nat.le_of_ble_eq_true rfl) ?_
  intro p e s m below meth c A ls H C hP hD hA hS hl
  obtain ⟨hx, hb, hr, hts, hown, hlocks, hml, hin, hKN⟩ := id C
  have hK := hKN.1
  have hN := hKN.2
  have F : CallFix p m c cX0_newFlow 3 s _ wsX0_newFlow yX0_newFlow.cls := ⟨hx, hb, hml, hown, hts⟩
  have hl : lv_has ls 3 [(0, .ref b), (1, .int v)] := hl
  refine lv_aload_n hx hb dX0_newFlow_0 rfl (lv_at hl 0 rfl) ?_
  refine va_get (D := g.1) (ci := 2) (v := .int fl) (C := RX2) (T := TX2) (N := 7) hx hb hts hc_X0_newFlow_X2 hown hK hP 0 rfl rfl 6 (by decide) (hts (.fieldLink RX0 19 "OilPush$Cylinder" "flow" "I") (by decide +kernel)) (fun _ h => h) rfl dX0_newFlow_1 ?_
  refine lv_istore_n (lv' := [(2, .int fl), (0, .ref b), (1, .int v)]) hx hb dX0_newFlow_4 rfl hl (by decide) rfl (fun ls hl => ?_)
  refine lv_aload_n hx hb dX0_newFlow_5 rfl (lv_at hl 1 rfl) ?_
  refine lv_iload_n hx hb dX0_newFlow_6 rfl (lv_at hl 2 rfl) ?_
  refine va_put (D := g.1) (ci := 2) (v := .int v) (ty := .int) (C := RX2) (T := TX2) (N := 7) hx hb hts hc_X0_newFlow_X2 tyX2 tyX2_ok nmX2 hown hK hP hD hS 0 rfl rfl 6 (by decide) (hts (.fieldLink RX0 19 "OilPush$Cylinder" "flow" "I") (by decide +kernel)) (fun _ h => h) rfl (by decide +kernel) rfl rfl (Nat.le_of_ble_eq_true rfl) dX0_newFlow_7 (fun H locs hP hD hS => ?_)
  replace hP : va_P g.1 vwCl [(b, .inr (2, [.int num, .int ar, .int sk, .ref lr, .int lc, .int cr, .int v]))] H := hP
  replace hD : va_D A [(b, .inr (2, [.int num, .int ar, .int sk, .ref lr, .int lc, .int cr, .int v]))] := hD
  refine lv_iload_n hx hb dX0_newFlow_10 rfl (lv_at hl 0 rfl) ?_
  exact retI C hS () rfl (hP.pick [0] rfl) (hD.sub [0] rfl rfl) (Nat.le_of_ble_eq_true rfl) (Nat.le_of_ble_eq_true rfl) dX0_newFlow_11
theorem hc_X0_newFlow_X10 : ∀ w ∈ wsX100, w ∈ wsX0_newFlow := fun w h => List.mem_cons_of_mem _ (List.mem_append_right _ h)
set_option maxRecDepth 100000 in
set_option maxHeartbeats 4000000 in
theorem y10_newFlow (l : Launch) (g : Gt) (b : Nat) (lr : Nat) (num : Int32) (ar : Int32) (sk : Int32) (lc : Int32) (cr : Int32) (fl : Int32) (v : Int32)  : Ctr l g yX0_newFlow wsX0_newFlow ({ frames := 0, cells := 0, slots := 0, locals := 0 } : Room) [.ref b, .int v] [(b, .inr (10, [.int num, .int ar, .int sk, .ref lr, .int lc, .int cr, .int fl]))] (fun A => QI g A (fun r (_ : Unit) => r = fl) (fun _u : Unit => [(b, .inr (10, [.int num, .int ar, .int sk, .ref lr, .int lc, .int cr, .int v]))])) := by
  refine Ctr.of (cc := cX0_newFlow) (maxL := 3) (ret := (some .int)) (by decide) rfl (Nat.le_of_ble_eq_true rfl) ?_
  intro p e s m below meth c A ls H C hP hD hA hS hl
  obtain ⟨hx, hb, hr, hts, hown, hlocks, hml, hin, hKN⟩ := id C
  have hK := hKN.1
  have hN := hKN.2
  have F : CallFix p m c cX0_newFlow 3 s _ wsX0_newFlow yX0_newFlow.cls := ⟨hx, hb, hml, hown, hts⟩
  have hl : lv_has ls 3 [(0, .ref b), (1, .int v)] := hl
  refine lv_aload_n hx hb dX0_newFlow_0 rfl (lv_at hl 0 rfl) ?_
  refine va_get (D := g.1) (ci := 10) (v := .int fl) (C := RX10) (T := TX10) (N := 7) hx hb hts hc_X0_newFlow_X10 hown hK hP 0 rfl rfl 6 (by decide) (hts (.fieldLink RX0 19 "OilPush$Cylinder" "flow" "I") (by decide +kernel)) (fun _ h => h) rfl dX0_newFlow_1 ?_
  refine lv_istore_n (lv' := [(2, .int fl), (0, .ref b), (1, .int v)]) hx hb dX0_newFlow_4 rfl hl (by decide) rfl (fun ls hl => ?_)
  refine lv_aload_n hx hb dX0_newFlow_5 rfl (lv_at hl 1 rfl) ?_
  refine lv_iload_n hx hb dX0_newFlow_6 rfl (lv_at hl 2 rfl) ?_
  refine va_put (D := g.1) (ci := 10) (v := .int v) (ty := .int) (C := RX10) (T := TX10) (N := 7) hx hb hts hc_X0_newFlow_X10 tyX10 tyX10_ok nmX10 hown hK hP hD hS 0 rfl rfl 6 (by decide) (hts (.fieldLink RX0 19 "OilPush$Cylinder" "flow" "I") (by decide +kernel)) (fun _ h => h) rfl (by decide +kernel) rfl rfl (Nat.le_of_ble_eq_true rfl) dX0_newFlow_7 (fun H locs hP hD hS => ?_)
  replace hP : va_P g.1 vwCl [(b, .inr (10, [.int num, .int ar, .int sk, .ref lr, .int lc, .int cr, .int v]))] H := hP
  replace hD : va_D A [(b, .inr (10, [.int num, .int ar, .int sk, .ref lr, .int lc, .int cr, .int v]))] := hD
  refine lv_iload_n hx hb dX0_newFlow_10 rfl (lv_at hl 0 rfl) ?_
  exact retI C hS () rfl (hP.pick [0] rfl) (hD.sub [0] rfl rfl) (Nat.le_of_ble_eq_true rfl) (Nat.le_of_ble_eq_true rfl) dX0_newFlow_11
set_option maxRecDepth 100000 in
set_option maxHeartbeats 4000000 in
theorem y0_kind (l : Launch) (g : Gt) (b : Nat) (lr : Nat) (num : Int32) (ar : Int32) (sk : Int32) (lc : Int32) (cr : Int32) (fl : Int32)  : Ctr l g yX0_kind wsX0_kind ({ frames := 0, cells := 0, slots := 0, locals := 0 } : Room) [.ref b] [(b, .inr (0, [.int num, .int ar, .int sk, .ref lr, .int lc, .int cr, .int fl]))] (fun A => QI g A (fun r (_ : Unit) => r = 0) (fun _u : Unit => [(b, .inr (0, [.int num, .int ar, .int sk, .ref lr, .int lc, .int cr, .int fl]))])) := by
  refine Ctr.of (cc := cX0_kind) (maxL := 1) (ret := (some .int)) (by decide) rfl (Nat.le_of_ble_eq_true rfl) ?_
  intro p e s m below meth c A ls H C hP hD hA hS hl
  obtain ⟨hx, hb, hr, hts, hown, hlocks, hml, hin, hKN⟩ := id C
  have hK := hKN.1
  have hN := hKN.2
  have F : CallFix p m c cX0_kind 1 s _ wsX0_kind yX0_kind.cls := ⟨hx, hb, hml, hown, hts⟩
  have hl : lv_has ls 1 [(0, .ref b)] := hl
  refine lv_iconst (v := 0) hx hb dX0_kind_0 (by decide) ?_
  exact retI C hS () rfl (hP.pick [0] rfl) (hD.sub [0] rfl rfl) (Nat.le_of_ble_eq_true rfl) (Nat.le_of_ble_eq_true rfl) dX0_kind_1
set_option maxRecDepth 100000 in
set_option maxHeartbeats 4000000 in
theorem y2_kind (l : Launch) (g : Gt) (b : Nat) (lr : Nat) (num : Int32) (ar : Int32) (sk : Int32) (lc : Int32) (cr : Int32) (fl : Int32)  : Ctr l g yX2_kind wsX2_kind ({ frames := 0, cells := 0, slots := 0, locals := 0 } : Room) [.ref b] [(b, .inr (2, [.int num, .int ar, .int sk, .ref lr, .int lc, .int cr, .int fl]))] (fun A => QI g A (fun r (_ : Unit) => r = 1) (fun _u : Unit => [(b, .inr (2, [.int num, .int ar, .int sk, .ref lr, .int lc, .int cr, .int fl]))])) := by
  refine Ctr.of (cc := cX2_kind) (maxL := 1) (ret := (some .int)) (by decide) rfl (Nat.le_of_ble_eq_true rfl) ?_
  intro p e s m below meth c A ls H C hP hD hA hS hl
  obtain ⟨hx, hb, hr, hts, hown, hlocks, hml, hin, hKN⟩ := id C
  have hK := hKN.1
  have hN := hKN.2
  have F : CallFix p m c cX2_kind 1 s _ wsX2_kind yX2_kind.cls := ⟨hx, hb, hml, hown, hts⟩
  have hl : lv_has ls 1 [(0, .ref b)] := hl
  refine lv_iconst (v := 1) hx hb dX2_kind_0 (by decide) ?_
  exact retI C hS () rfl (hP.pick [0] rfl) (hD.sub [0] rfl rfl) (Nat.le_of_ble_eq_true rfl) (Nat.le_of_ble_eq_true rfl) dX2_kind_1
set_option maxRecDepth 100000 in
set_option maxHeartbeats 4000000 in
theorem y10_kind (l : Launch) (g : Gt) (b : Nat) (lr : Nat) (num : Int32) (ar : Int32) (sk : Int32) (lc : Int32) (cr : Int32) (fl : Int32)  : Ctr l g yX10_kind wsX10_kind ({ frames := 0, cells := 0, slots := 0, locals := 0 } : Room) [.ref b] [(b, .inr (10, [.int num, .int ar, .int sk, .ref lr, .int lc, .int cr, .int fl]))] (fun A => QI g A (fun r (_ : Unit) => r = 2) (fun _u : Unit => [(b, .inr (10, [.int num, .int ar, .int sk, .ref lr, .int lc, .int cr, .int fl]))])) := by
  refine Ctr.of (cc := cX10_kind) (maxL := 1) (ret := (some .int)) (by decide) rfl (Nat.le_of_ble_eq_true rfl) ?_
  intro p e s m below meth c A ls H C hP hD hA hS hl
  obtain ⟨hx, hb, hr, hts, hown, hlocks, hml, hin, hKN⟩ := id C
  have hK := hKN.1
  have hN := hKN.2
  have F : CallFix p m c cX10_kind 1 s _ wsX10_kind yX10_kind.cls := ⟨hx, hb, hml, hown, hts⟩
  have hl : lv_has ls 1 [(0, .ref b)] := hl
  refine lv_iconst (v := 2) hx hb dX10_kind_0 (by decide) ?_
  exact retI C hS () rfl (hP.pick [0] rfl) (hD.sub [0] rfl rfl) (Nat.le_of_ble_eq_true rfl) (Nat.le_of_ble_eq_true rfl) dX10_kind_1
theorem hc_X9_leave_X9 : ∀ w ∈ wsX90, w ∈ wsX9_leave := fun w h => List.mem_cons_of_mem _ (List.mem_append_right _ h)
set_option maxRecDepth 100000 in
set_option maxHeartbeats 4000000 in
theorem t_leave (l : Launch) (g : Gt) (tra : Nat) (tv : Int32) (no : Int32)  : Ctr l g yX9_leave wsX9_leave ({ frames := 0, cells := 0, slots := 0, locals := 0 } : Room) [.ref tra, .int no] [(tra, .inr (9, [.int tv]))] (fun A => QV g A (fun _ : Unit => () = ()) (fun _u : Unit => [(tra, .inr (9, [.int ((31 * tv) + no)]))])) := by
  refine Ctr.of (cc := cX9_leave) (maxL := 2) (ret := none) (by decide) rfl (Nat.le_of_ble_eq_true rfl) ?_
  intro p e s m below meth c A ls H C hP hD hA hS hl
  obtain ⟨hx, hb, hr, hts, hown, hlocks, hml, hin, hKN⟩ := id C
  have hK := hKN.1
  have hN := hKN.2
  have F : CallFix p m c cX9_leave 2 s _ wsX9_leave yX9_leave.cls := ⟨hx, hb, hml, hown, hts⟩
  have hl : lv_has ls 2 [(0, .ref tra), (1, .int no)] := hl
  refine lv_aload_n hx hb dX9_leave_0 rfl (lv_at hl 0 rfl) ?_
  refine lv_bipush (v := 31) hx hb dX9_leave_1 (by decide) ?_
  refine lv_aload_n hx hb dX9_leave_3 rfl (lv_at hl 0 rfl) ?_
  refine va_get (D := g.1) (ci := 9) (v := .int tv) (C := RX9) (T := TX9) (N := 1) hx hb hts hc_X9_leave_X9 hown hK hP 0 rfl rfl 0 (by decide) (hts (.fieldLink RX9 7 "OilPush$Trace" "value" "I") (by decide +kernel)) (fun _ h => h) rfl dX9_leave_4 ?_
  refine lv_imul hx hb dX9_leave_7 ?_
  refine lv_iload_n hx hb dX9_leave_8 rfl (lv_at hl 1 rfl) ?_
  refine lv_iadd hx hb dX9_leave_9 ?_
  refine va_put (D := g.1) (ci := 9) (v := .int ((31 * tv) + no)) (ty := .int) (C := RX9) (T := TX9) (N := 1) hx hb hts hc_X9_leave_X9 tyX9 tyX9_ok nmX9 hown hK hP hD hS 0 rfl rfl 0 (by decide) (hts (.fieldLink RX9 7 "OilPush$Trace" "value" "I") (by decide +kernel)) (fun _ h => h) rfl (by decide +kernel) rfl rfl (Nat.le_of_ble_eq_true rfl) dX9_leave_10 (fun H locs hP hD hS => ?_)
  replace hP : va_P g.1 vwCl [(tra, .inr (9, [.int ((31 * tv) + no)]))] H := hP
  replace hD : va_D A [(tra, .inr (9, [.int ((31 * tv) + no)]))] := hD
  exact retV C hS () rfl (hP.pick [0] rfl) (hD.sub [0] rfl rfl) (Nat.le_of_ble_eq_true rfl) (Nat.le_of_ble_eq_true rfl) dX9_leave_13
set_option maxRecDepth 100000 in
set_option maxHeartbeats 4000000 in
theorem y0_plainlyTold (l : Launch) (g : Gt) (b : Nat) (lr : Nat) (num : Int32) (ar : Int32) (sk : Int32) (lc : Int32) (cr : Int32) (fl : Int32) (tra : Nat) (tv : Int32) (oil : Int32)  : Ctr l g yX0_plainlyTold wsX0_plainlyTold ({ frames := 1, cells := 0, slots := 0, locals := 21 } : Room) [.ref b, .ref tra, .int oil] [(b, .inr (0, [.int num, .int ar, .int sk, .ref lr, .int lc, .int cr, .int fl])), (tra, .inr (9, [.int tv]))] (fun A => QI g A (fun r (_ : Unit) => r = oil) (fun _u : Unit => [(b, .inr (0, [.int num, .int ar, .int sk, .ref lr, .int lc, .int cr, .int fl])), (tra, .inr (9, [.int ((31 * tv) + 1)]))])) := by
  refine Ctr.of (cc := cX0_plainlyTold) (maxL := 3) (ret := (some .int)) (by decide) rfl (Nat.le_of_ble_eq_true rfl) ?_
  intro p e s m below meth c A ls H C hP hD hA hS hl
  obtain ⟨hx, hb, hr, hts, hown, hlocks, hml, hin, hKN⟩ := id C
  have hK := hKN.1
  have hN := hKN.2
  have F : CallFix p m c cX0_plainlyTold 3 s _ wsX0_plainlyTold yX0_plainlyTold.cls := ⟨hx, hb, hml, hown, hts⟩
  have hl : lv_has ls 3 [(0, .ref b), (1, .ref tra), (2, .int oil)] := hl
  refine lv_aload_n hx hb dX0_plainlyTold_0 rfl (lv_at hl 1 rfl) ?_
  refine lv_iconst (v := 1) hx hb dX0_plainlyTold_1 (by decide) ?_
  refine kV (rnV (As := [.int 1]) (rest := []) (Cn := RX9) C (t_leave l g tra tv 1) 1 gX0_plainlyTold_X9_leave rfl (by decide +kernel) ⟨(Nat.le_of_ble_eq_true rfl), (Nat.le_of_ble_eq_true rfl)⟩ hP (k := 1) (ci := 9) rfl rfl rfl rfl hl.1 rfl (Nat.le_of_ble_eq_true rfl) dX0_plainlyTold_2 ⟨(Nat.le_of_ble_eq_true rfl), (Nat.le_of_ble_eq_true rfl)⟩) (spM0 [false, true] hP hD rfl) hA hS (fun u2 H locs hw hP hD hS => ?_)
  replace hP : va_P g.1 vwCl [(b, .inr (0, [.int num, .int ar, .int sk, .ref lr, .int lc, .int cr, .int fl])), (tra, .inr (9, [.int ((31 * tv) + 1)]))] H := hP
  replace hD : va_D A [(b, .inr (0, [.int num, .int ar, .int sk, .ref lr, .int lc, .int cr, .int fl])), (tra, .inr (9, [.int ((31 * tv) + 1)]))] := hD
  refine lv_iload_n hx hb dX0_plainlyTold_5 rfl (lv_at hl 2 rfl) ?_
  exact retI C hS () rfl (hP.pick [0, 1] rfl) (hD.sub [0, 1] rfl rfl) (Nat.le_of_ble_eq_true rfl) (Nat.le_of_ble_eq_true rfl) dX0_plainlyTold_6
set_option maxRecDepth 100000 in
set_option maxHeartbeats 4000000 in
theorem y2_plainlyTold (l : Launch) (g : Gt) (b : Nat) (lr : Nat) (num : Int32) (ar : Int32) (sk : Int32) (lc : Int32) (cr : Int32) (fl : Int32) (tra : Nat) (tv : Int32) (oil : Int32)  : Ctr l g yX0_plainlyTold wsX0_plainlyTold ({ frames := 1, cells := 0, slots := 0, locals := 21 } : Room) [.ref b, .ref tra, .int oil] [(b, .inr (2, [.int num, .int ar, .int sk, .ref lr, .int lc, .int cr, .int fl])), (tra, .inr (9, [.int tv]))] (fun A => QI g A (fun r (_ : Unit) => r = oil) (fun _u : Unit => [(b, .inr (2, [.int num, .int ar, .int sk, .ref lr, .int lc, .int cr, .int fl])), (tra, .inr (9, [.int ((31 * tv) + 1)]))])) := by
  refine Ctr.of (cc := cX0_plainlyTold) (maxL := 3) (ret := (some .int)) (by decide) rfl (Nat.le_of_ble_eq_true rfl) ?_
  intro p e s m below meth c A ls H C hP hD hA hS hl
  obtain ⟨hx, hb, hr, hts, hown, hlocks, hml, hin, hKN⟩ := id C
  have hK := hKN.1
  have hN := hKN.2
  have F : CallFix p m c cX0_plainlyTold 3 s _ wsX0_plainlyTold yX0_plainlyTold.cls := ⟨hx, hb, hml, hown, hts⟩
  have hl : lv_has ls 3 [(0, .ref b), (1, .ref tra), (2, .int oil)] := hl
  refine lv_aload_n hx hb dX0_plainlyTold_0 rfl (lv_at hl 1 rfl) ?_
  refine lv_iconst (v := 1) hx hb dX0_plainlyTold_1 (by decide) ?_
  refine kV (rnV (As := [.int 1]) (rest := []) (Cn := RX9) C (t_leave l g tra tv 1) 1 gX0_plainlyTold_X9_leave rfl (by decide +kernel) ⟨(Nat.le_of_ble_eq_true rfl), (Nat.le_of_ble_eq_true rfl)⟩ hP (k := 1) (ci := 9) rfl rfl rfl rfl hl.1 rfl (Nat.le_of_ble_eq_true rfl) dX0_plainlyTold_2 ⟨(Nat.le_of_ble_eq_true rfl), (Nat.le_of_ble_eq_true rfl)⟩) (spM0 [false, true] hP hD rfl) hA hS (fun u2 H locs hw hP hD hS => ?_)
  replace hP : va_P g.1 vwCl [(b, .inr (2, [.int num, .int ar, .int sk, .ref lr, .int lc, .int cr, .int fl])), (tra, .inr (9, [.int ((31 * tv) + 1)]))] H := hP
  replace hD : va_D A [(b, .inr (2, [.int num, .int ar, .int sk, .ref lr, .int lc, .int cr, .int fl])), (tra, .inr (9, [.int ((31 * tv) + 1)]))] := hD
  refine lv_iload_n hx hb dX0_plainlyTold_5 rfl (lv_at hl 2 rfl) ?_
  exact retI C hS () rfl (hP.pick [0, 1] rfl) (hD.sub [0, 1] rfl rfl) (Nat.le_of_ble_eq_true rfl) (Nat.le_of_ble_eq_true rfl) dX0_plainlyTold_6
set_option maxRecDepth 100000 in
set_option maxHeartbeats 4000000 in
theorem y10_plainlyTold (l : Launch) (g : Gt) (b : Nat) (lr : Nat) (num : Int32) (ar : Int32) (sk : Int32) (lc : Int32) (cr : Int32) (fl : Int32) (tra : Nat) (tv : Int32) (oil : Int32)  : Ctr l g yX0_plainlyTold wsX0_plainlyTold ({ frames := 1, cells := 0, slots := 0, locals := 21 } : Room) [.ref b, .ref tra, .int oil] [(b, .inr (10, [.int num, .int ar, .int sk, .ref lr, .int lc, .int cr, .int fl])), (tra, .inr (9, [.int tv]))] (fun A => QI g A (fun r (_ : Unit) => r = oil) (fun _u : Unit => [(b, .inr (10, [.int num, .int ar, .int sk, .ref lr, .int lc, .int cr, .int fl])), (tra, .inr (9, [.int ((31 * tv) + 1)]))])) := by
  refine Ctr.of (cc := cX0_plainlyTold) (maxL := 3) (ret := (some .int)) (by decide) rfl (Nat.le_of_ble_eq_true rfl) ?_
  intro p e s m below meth c A ls H C hP hD hA hS hl
  obtain ⟨hx, hb, hr, hts, hown, hlocks, hml, hin, hKN⟩ := id C
  have hK := hKN.1
  have hN := hKN.2
  have F : CallFix p m c cX0_plainlyTold 3 s _ wsX0_plainlyTold yX0_plainlyTold.cls := ⟨hx, hb, hml, hown, hts⟩
  have hl : lv_has ls 3 [(0, .ref b), (1, .ref tra), (2, .int oil)] := hl
  refine lv_aload_n hx hb dX0_plainlyTold_0 rfl (lv_at hl 1 rfl) ?_
  refine lv_iconst (v := 1) hx hb dX0_plainlyTold_1 (by decide) ?_
  refine kV (rnV (As := [.int 1]) (rest := []) (Cn := RX9) C (t_leave l g tra tv 1) 1 gX0_plainlyTold_X9_leave rfl (by decide +kernel) ⟨(Nat.le_of_ble_eq_true rfl), (Nat.le_of_ble_eq_true rfl)⟩ hP (k := 1) (ci := 9) rfl rfl rfl rfl hl.1 rfl (Nat.le_of_ble_eq_true rfl) dX0_plainlyTold_2 ⟨(Nat.le_of_ble_eq_true rfl), (Nat.le_of_ble_eq_true rfl)⟩) (spM0 [false, true] hP hD rfl) hA hS (fun u2 H locs hw hP hD hS => ?_)
  replace hP : va_P g.1 vwCl [(b, .inr (10, [.int num, .int ar, .int sk, .ref lr, .int lc, .int cr, .int fl])), (tra, .inr (9, [.int ((31 * tv) + 1)]))] H := hP
  replace hD : va_D A [(b, .inr (10, [.int num, .int ar, .int sk, .ref lr, .int lc, .int cr, .int fl])), (tra, .inr (9, [.int ((31 * tv) + 1)]))] := hD
  refine lv_iload_n hx hb dX0_plainlyTold_5 rfl (lv_at hl 2 rfl) ?_
  exact retI C hS () rfl (hP.pick [0, 1] rfl) (hD.sub [0, 1] rfl rfl) (Nat.le_of_ble_eq_true rfl) (Nat.le_of_ble_eq_true rfl) dX0_plainlyTold_6
set_option maxRecDepth 100000 in
set_option maxHeartbeats 4000000 in
theorem y0_toldBy (l : Launch) (g : Gt) (b : Nat) (lr : Nat) (num : Int32) (ar : Int32) (sk : Int32) (lc : Int32) (cr : Int32) (fl : Int32) (tra : Nat) (tv : Int32) (oil : Int32)  : Ctr l g yX0_toldBy wsX0_toldBy ({ frames := 2, cells := 0, slots := 0, locals := 43 } : Room) [.ref b, .ref tra, .int oil] [(b, .inr (0, [.int num, .int ar, .int sk, .ref lr, .int lc, .int cr, .int fl])), (tra, .inr (9, [.int tv]))] (fun A => QI g A (fun r (_ : Unit) => r = oil) (fun _u : Unit => [(b, .inr (0, [.int num, .int ar, .int sk, .ref lr, .int lc, .int cr, .int fl])), (tra, .inr (9, [.int ((31 * tv) + 1)]))])) := by
  refine Ctr.of (cc := cX0_toldBy) (maxL := 3) (ret := (some .int)) (by decide) rfl (Nat.le_of_ble_eq_true rfl) ?_
  intro p e s m below meth c A ls H C hP hD hA hS hl
  obtain ⟨hx, hb, hr, hts, hown, hlocks, hml, hin, hKN⟩ := id C
  have hK := hKN.1
  have hN := hKN.2
  have F : CallFix p m c cX0_toldBy 3 s _ wsX0_toldBy yX0_toldBy.cls := ⟨hx, hb, hml, hown, hts⟩
  have hl : lv_has ls 3 [(0, .ref b), (1, .ref tra), (2, .int oil)] := hl
  refine lv_aload_n hx hb dX0_toldBy_0 rfl (lv_at hl 0 rfl) ?_
  refine lv_aload_n hx hb dX0_toldBy_1 rfl (lv_at hl 1 rfl) ?_
  refine lv_iload_n hx hb dX0_toldBy_2 rfl (lv_at hl 2 rfl) ?_
  refine kI (rnV (As := [.ref tra, .int oil]) (rest := []) (Cn := RX0) C (y0_plainlyTold l g b lr num ar sk lc cr fl tra tv oil) 2 gX0_toldBy_X0_plainlyTold rfl (by decide +kernel) ⟨(Nat.le_of_ble_eq_true rfl), (Nat.le_of_ble_eq_true rfl)⟩ hP (k := 0) (ci := 0) rfl rfl rfl rfl hl.1 rfl (Nat.le_of_ble_eq_true rfl) dX0_toldBy_3 ⟨(Nat.le_of_ble_eq_true rfl), (Nat.le_of_ble_eq_true rfl)⟩) (spM0 [true, true] hP hD rfl) hA hS (fun r1 u2 H locs hw hP hD hS => ?_)
  have hre := hw
  replace hP : va_P g.1 vwCl [(b, .inr (0, [.int num, .int ar, .int sk, .ref lr, .int lc, .int cr, .int fl])), (tra, .inr (9, [.int ((31 * tv) + 1)]))] H := hP
  replace hD : va_D A [(b, .inr (0, [.int num, .int ar, .int sk, .ref lr, .int lc, .int cr, .int fl])), (tra, .inr (9, [.int ((31 * tv) + 1)]))] := hD
  refine nx_i (v := oil) hre ?_
  exact retI C hS () rfl (hP.pick [0, 1] rfl) (hD.sub [0, 1] rfl rfl) (Nat.le_of_ble_eq_true rfl) (Nat.le_of_ble_eq_true rfl) dX0_toldBy_6
set_option maxRecDepth 100000 in
set_option maxHeartbeats 4000000 in
theorem y2_toldBy (l : Launch) (g : Gt) (b : Nat) (lr : Nat) (num : Int32) (ar : Int32) (sk : Int32) (lc : Int32) (cr : Int32) (fl : Int32) (tra : Nat) (tv : Int32) (oil : Int32)  : Ctr l g yX2_toldBy wsX2_toldBy ({ frames := 2, cells := 0, slots := 0, locals := 43 } : Room) [.ref b, .ref tra, .int oil] [(b, .inr (2, [.int num, .int ar, .int sk, .ref lr, .int lc, .int cr, .int fl])), (tra, .inr (9, [.int tv]))] (fun A => QI g A (fun r (_ : Unit) => r = (oil + 1000000)) (fun _u : Unit => [(b, .inr (2, [.int num, .int ar, .int sk, .ref lr, .int lc, .int cr, .int fl])), (tra, .inr (9, [.int ((31 * ((31 * tv) + 2)) + 1)]))])) := by
  refine Ctr.of (cc := cX2_toldBy) (maxL := 3) (ret := (some .int)) (by decide) rfl (Nat.le_of_ble_eq_true rfl) ?_
  intro p e s m below meth c A ls H C hP hD hA hS hl
  obtain ⟨hx, hb, hr, hts, hown, hlocks, hml, hin, hKN⟩ := id C
  have hK := hKN.1
  have hN := hKN.2
  have F : CallFix p m c cX2_toldBy 3 s _ wsX2_toldBy yX2_toldBy.cls := ⟨hx, hb, hml, hown, hts⟩
  have hl : lv_has ls 3 [(0, .ref b), (1, .ref tra), (2, .int oil)] := hl
  refine lv_aload_n hx hb dX2_toldBy_0 rfl (lv_at hl 1 rfl) ?_
  refine lv_iconst (v := 2) hx hb dX2_toldBy_1 (by decide) ?_
  refine kV (rnV (As := [.int 2]) (rest := []) (Cn := RX9) C (t_leave l g tra tv 2) 1 gX2_toldBy_X9_leave rfl (by decide +kernel) ⟨(Nat.le_of_ble_eq_true rfl), (Nat.le_of_ble_eq_true rfl)⟩ hP (k := 1) (ci := 9) rfl rfl rfl rfl hl.1 rfl (Nat.le_of_ble_eq_true rfl) dX2_toldBy_2 ⟨(Nat.le_of_ble_eq_true rfl), (Nat.le_of_ble_eq_true rfl)⟩) (spM0 [false, true] hP hD rfl) hA hS (fun u2 H locs hw hP hD hS => ?_)
  replace hP : va_P g.1 vwCl [(b, .inr (2, [.int num, .int ar, .int sk, .ref lr, .int lc, .int cr, .int fl])), (tra, .inr (9, [.int ((31 * tv) + 2)]))] H := hP
  replace hD : va_D A [(b, .inr (2, [.int num, .int ar, .int sk, .ref lr, .int lc, .int cr, .int fl])), (tra, .inr (9, [.int ((31 * tv) + 2)]))] := hD
  refine lv_aload_n hx hb dX2_toldBy_5 rfl (lv_at hl 0 rfl) ?_
  refine lv_aload_n hx hb dX2_toldBy_6 rfl (lv_at hl 1 rfl) ?_
  refine lv_iload_n hx hb dX2_toldBy_7 rfl (lv_at hl 2 rfl) ?_
  refine kI (rnU (As := [.ref tra, .int oil]) (rest := []) (Cn := RX2) C (y2_plainlyTold l g b lr num ar sk lc cr fl tra ((31 * tv) + 2) oil) 2 gX2_toldBy_X0_plainlyTold_u13X2 rfl rfl (by decide +kernel) ⟨(Nat.le_of_ble_eq_true rfl), (Nat.le_of_ble_eq_true rfl)⟩ hP (k := 0) (ci := 2) rfl rfl rfl rfl hl.1 rfl (Nat.le_of_ble_eq_true rfl) dX2_toldBy_8 ⟨(Nat.le_of_ble_eq_true rfl), (Nat.le_of_ble_eq_true rfl)⟩) (spM0 [true, true] hP hD rfl) hA hS (fun r3 u4 H locs hw hP hD hS => ?_)
  have hre := hw
  replace hP : va_P g.1 vwCl [(b, .inr (2, [.int num, .int ar, .int sk, .ref lr, .int lc, .int cr, .int fl])), (tra, .inr (9, [.int ((31 * ((31 * tv) + 2)) + 1)]))] H := hP
  replace hD : va_D A [(b, .inr (2, [.int num, .int ar, .int sk, .ref lr, .int lc, .int cr, .int fl])), (tra, .inr (9, [.int ((31 * ((31 * tv) + 2)) + 1)]))] := hD
  refine nx_i (v := oil) hre ?_
  refine lv_ldc (v := 1000000) hx hb hown (hts (.constant RX2 19 (1000000)) (by decide +kernel)) dX2_toldBy_11 ?_
  refine lv_iadd hx hb dX2_toldBy_13 ?_
  exact retI C hS () rfl (hP.pick [0, 1] rfl) (hD.sub [0, 1] rfl rfl) (Nat.le_of_ble_eq_true rfl) (Nat.le_of_ble_eq_true rfl) dX2_toldBy_14
set_option maxRecDepth 100000 in
set_option maxHeartbeats 4000000 in
theorem y10_toldBy (l : Launch) (g : Gt) (b : Nat) (lr : Nat) (num : Int32) (ar : Int32) (sk : Int32) (lc : Int32) (cr : Int32) (fl : Int32) (tra : Nat) (tv : Int32) (oil : Int32)  : Ctr l g yX10_toldBy wsX10_toldBy ({ frames := 2, cells := 0, slots := 0, locals := 43 } : Room) [.ref b, .ref tra, .int oil] [(b, .inr (10, [.int num, .int ar, .int sk, .ref lr, .int lc, .int cr, .int fl])), (tra, .inr (9, [.int tv]))] (fun A => QI g A (fun r (_ : Unit) => r = (2 * oil)) (fun _u : Unit => [(b, .inr (10, [.int num, .int ar, .int sk, .ref lr, .int lc, .int cr, .int fl])), (tra, .inr (9, [.int ((31 * ((31 * tv) + 3)) + 1)]))])) := by
  refine Ctr.of (cc := cX10_toldBy) (maxL := 3) (ret := (some .int)) (by decide) rfl (Nat.le_of_ble_eq_true rfl) ?_
  intro p e s m below meth c A ls H C hP hD hA hS hl
  obtain ⟨hx, hb, hr, hts, hown, hlocks, hml, hin, hKN⟩ := id C
  have hK := hKN.1
  have hN := hKN.2
  have F : CallFix p m c cX10_toldBy 3 s _ wsX10_toldBy yX10_toldBy.cls := ⟨hx, hb, hml, hown, hts⟩
  have hl : lv_has ls 3 [(0, .ref b), (1, .ref tra), (2, .int oil)] := hl
  refine lv_aload_n hx hb dX10_toldBy_0 rfl (lv_at hl 1 rfl) ?_
  refine lv_iconst (v := 3) hx hb dX10_toldBy_1 (by decide) ?_
  refine kV (rnV (As := [.int 3]) (rest := []) (Cn := RX9) C (t_leave l g tra tv 3) 1 gX10_toldBy_X9_leave rfl (by decide +kernel) ⟨(Nat.le_of_ble_eq_true rfl), (Nat.le_of_ble_eq_true rfl)⟩ hP (k := 1) (ci := 9) rfl rfl rfl rfl hl.1 rfl (Nat.le_of_ble_eq_true rfl) dX10_toldBy_2 ⟨(Nat.le_of_ble_eq_true rfl), (Nat.le_of_ble_eq_true rfl)⟩) (spM0 [false, true] hP hD rfl) hA hS (fun u2 H locs hw hP hD hS => ?_)
  replace hP : va_P g.1 vwCl [(b, .inr (10, [.int num, .int ar, .int sk, .ref lr, .int lc, .int cr, .int fl])), (tra, .inr (9, [.int ((31 * tv) + 3)]))] H := hP
  replace hD : va_D A [(b, .inr (10, [.int num, .int ar, .int sk, .ref lr, .int lc, .int cr, .int fl])), (tra, .inr (9, [.int ((31 * tv) + 3)]))] := hD
  refine lv_iconst (v := 2) hx hb dX10_toldBy_5 (by decide) ?_
  refine lv_aload_n hx hb dX10_toldBy_6 rfl (lv_at hl 0 rfl) ?_
  refine lv_aload_n hx hb dX10_toldBy_7 rfl (lv_at hl 1 rfl) ?_
  refine lv_iload_n hx hb dX10_toldBy_8 rfl (lv_at hl 2 rfl) ?_
  refine kI (rnU (As := [.ref tra, .int oil]) (rest := [.int 2]) (Cn := RX10) C (y10_plainlyTold l g b lr num ar sk lc cr fl tra ((31 * tv) + 3) oil) 2 gX10_toldBy_X0_plainlyTold_u17X10 rfl rfl (by decide +kernel) ⟨(Nat.le_of_ble_eq_true rfl), (Nat.le_of_ble_eq_true rfl)⟩ hP (k := 0) (ci := 10) rfl rfl rfl rfl hl.1 rfl (Nat.le_of_ble_eq_true rfl) dX10_toldBy_9 ⟨(Nat.le_of_ble_eq_true rfl), (Nat.le_of_ble_eq_true rfl)⟩) (spM0 [true, true] hP hD rfl) hA hS (fun r3 u4 H locs hw hP hD hS => ?_)
  have hre := hw
  replace hP : va_P g.1 vwCl [(b, .inr (10, [.int num, .int ar, .int sk, .ref lr, .int lc, .int cr, .int fl])), (tra, .inr (9, [.int ((31 * ((31 * tv) + 3)) + 1)]))] H := hP
  replace hD : va_D A [(b, .inr (10, [.int num, .int ar, .int sk, .ref lr, .int lc, .int cr, .int fl])), (tra, .inr (9, [.int ((31 * ((31 * tv) + 3)) + 1)]))] := hD
  refine nx_i (v := oil) hre ?_
  refine lv_imul hx hb dX10_toldBy_12 ?_
  exact retI C hS () rfl (hP.pick [0, 1] rfl) (hD.sub [0, 1] rfl rfl) (Nat.le_of_ble_eq_true rfl) (Nat.le_of_ble_eq_true rfl) dX10_toldBy_13
theorem hc_X0_seenBy_X0 : ∀ w ∈ wsX00, w ∈ wsX0_seenBy := fun w h => List.mem_cons_of_mem _ (List.mem_append_left _ (List.mem_append_left _ (List.mem_append_left _ (List.mem_append_right _ h))))
set_option maxRecDepth 100000 in
set_option maxHeartbeats 4000000 in
theorem y0_seenBy (l : Launch) (g : Gt) (b : Nat) (lr : Nat) (num : Int32) (ar : Int32) (sk : Int32) (lc : Int32) (cr : Int32) (fl : Int32) (tra : Nat) (tv : Int32)  : Ctr l g yX0_seenBy wsX0_seenBy ({ frames := 1, cells := 0, slots := 0, locals := 21 } : Room) [.ref b, .ref tra] [(b, .inr (0, [.int num, .int ar, .int sk, .ref lr, .int lc, .int cr, .int fl])), (tra, .inr (9, [.int tv]))] (fun A => QI g A (fun r (_ : Unit) => r = num) (fun _u : Unit => [(b, .inr (0, [.int num, .int ar, .int sk, .ref lr, .int lc, .int cr, .int fl])), (tra, .inr (9, [.int ((31 * tv) + 4)]))])) := by
  refine Ctr.of (cc := cX0_seenBy) (maxL := 2) (ret := (some .int)) (by decide) rfl (Nat.le_of_ble_eq_true rfl) ?_
  intro p e s m below meth c A ls H C hP hD hA hS hl
  obtain ⟨hx, hb, hr, hts, hown, hlocks, hml, hin, hKN⟩ := id C
  have hK := hKN.1
  have hN := hKN.2
  have F : CallFix p m c cX0_seenBy 2 s _ wsX0_seenBy yX0_seenBy.cls := ⟨hx, hb, hml, hown, hts⟩
  have hl : lv_has ls 2 [(0, .ref b), (1, .ref tra)] := hl
  refine lv_aload_n hx hb dX0_seenBy_0 rfl (lv_at hl 1 rfl) ?_
  refine lv_iconst (v := 4) hx hb dX0_seenBy_1 (by decide) ?_
  refine kV (rnV (As := [.int 4]) (rest := []) (Cn := RX9) C (t_leave l g tra tv 4) 1 gX0_seenBy_X9_leave rfl (by decide +kernel) ⟨(Nat.le_of_ble_eq_true rfl), (Nat.le_of_ble_eq_true rfl)⟩ hP (k := 1) (ci := 9) rfl rfl rfl rfl hl.1 rfl (Nat.le_of_ble_eq_true rfl) dX0_seenBy_2 ⟨(Nat.le_of_ble_eq_true rfl), (Nat.le_of_ble_eq_true rfl)⟩) (spM0 [false, true] hP hD rfl) hA hS (fun u2 H locs hw hP hD hS => ?_)
  replace hP : va_P g.1 vwCl [(b, .inr (0, [.int num, .int ar, .int sk, .ref lr, .int lc, .int cr, .int fl])), (tra, .inr (9, [.int ((31 * tv) + 4)]))] H := hP
  replace hD : va_D A [(b, .inr (0, [.int num, .int ar, .int sk, .ref lr, .int lc, .int cr, .int fl])), (tra, .inr (9, [.int ((31 * tv) + 4)]))] := hD
  refine lv_aload_n hx hb dX0_seenBy_5 rfl (lv_at hl 0 rfl) ?_
  refine va_get (D := g.1) (ci := 0) (v := .int num) (C := RX0) (T := TX0) (N := 7) hx hb hts hc_X0_seenBy_X0 hown hK hP 0 rfl rfl 0 (by decide) (hts (.fieldLink RX0 22 "OilPush$Cylinder" "number" "I") (by decide +kernel)) (fun _ h => h) rfl dX0_seenBy_6 ?_
  exact retI C hS () rfl (hP.pick [0, 1] rfl) (hD.sub [0, 1] rfl rfl) (Nat.le_of_ble_eq_true rfl) (Nat.le_of_ble_eq_true rfl) dX0_seenBy_9
theorem hc_X0_seenBy_X2 : ∀ w ∈ wsX20, w ∈ wsX0_seenBy := fun w h => List.mem_cons_of_mem _ (List.mem_append_left _ (List.mem_append_left _ (List.mem_append_right _ h)))
set_option maxRecDepth 100000 in
set_option maxHeartbeats 4000000 in
theorem y2_seenBy (l : Launch) (g : Gt) (b : Nat) (lr : Nat) (num : Int32) (ar : Int32) (sk : Int32) (lc : Int32) (cr : Int32) (fl : Int32) (tra : Nat) (tv : Int32)  : Ctr l g yX0_seenBy wsX0_seenBy ({ frames := 1, cells := 0, slots := 0, locals := 21 } : Room) [.ref b, .ref tra] [(b, .inr (2, [.int num, .int ar, .int sk, .ref lr, .int lc, .int cr, .int fl])), (tra, .inr (9, [.int tv]))] (fun A => QI g A (fun r (_ : Unit) => r = num) (fun _u : Unit => [(b, .inr (2, [.int num, .int ar, .int sk, .ref lr, .int lc, .int cr, .int fl])), (tra, .inr (9, [.int ((31 * tv) + 4)]))])) := by
  refine Ctr.of (cc := cX0_seenBy) (maxL := 2) (ret := (some .int)) (by decide) rfl (Nat.le_of_ble_eq_true rfl) ?_
  intro p e s m below meth c A ls H C hP hD hA hS hl
  obtain ⟨hx, hb, hr, hts, hown, hlocks, hml, hin, hKN⟩ := id C
  have hK := hKN.1
  have hN := hKN.2
  have F : CallFix p m c cX0_seenBy 2 s _ wsX0_seenBy yX0_seenBy.cls := ⟨hx, hb, hml, hown, hts⟩
  have hl : lv_has ls 2 [(0, .ref b), (1, .ref tra)] := hl
  refine lv_aload_n hx hb dX0_seenBy_0 rfl (lv_at hl 1 rfl) ?_
  refine lv_iconst (v := 4) hx hb dX0_seenBy_1 (by decide) ?_
  refine kV (rnV (As := [.int 4]) (rest := []) (Cn := RX9) C (t_leave l g tra tv 4) 1 gX0_seenBy_X9_leave rfl (by decide +kernel) ⟨(Nat.le_of_ble_eq_true rfl), (Nat.le_of_ble_eq_true rfl)⟩ hP (k := 1) (ci := 9) rfl rfl rfl rfl hl.1 rfl (Nat.le_of_ble_eq_true rfl) dX0_seenBy_2 ⟨(Nat.le_of_ble_eq_true rfl), (Nat.le_of_ble_eq_true rfl)⟩) (spM0 [false, true] hP hD rfl) hA hS (fun u2 H locs hw hP hD hS => ?_)
  replace hP : va_P g.1 vwCl [(b, .inr (2, [.int num, .int ar, .int sk, .ref lr, .int lc, .int cr, .int fl])), (tra, .inr (9, [.int ((31 * tv) + 4)]))] H := hP
  replace hD : va_D A [(b, .inr (2, [.int num, .int ar, .int sk, .ref lr, .int lc, .int cr, .int fl])), (tra, .inr (9, [.int ((31 * tv) + 4)]))] := hD
  refine lv_aload_n hx hb dX0_seenBy_5 rfl (lv_at hl 0 rfl) ?_
  refine va_get (D := g.1) (ci := 2) (v := .int num) (C := RX2) (T := TX2) (N := 7) hx hb hts hc_X0_seenBy_X2 hown hK hP 0 rfl rfl 0 (by decide) (hts (.fieldLink RX0 22 "OilPush$Cylinder" "number" "I") (by decide +kernel)) (fun _ h => h) rfl dX0_seenBy_6 ?_
  exact retI C hS () rfl (hP.pick [0, 1] rfl) (hD.sub [0, 1] rfl rfl) (Nat.le_of_ble_eq_true rfl) (Nat.le_of_ble_eq_true rfl) dX0_seenBy_9
set_option maxRecDepth 100000 in
set_option maxHeartbeats 4000000 in
theorem y10_seenBy (l : Launch) (g : Gt) (b : Nat) (lr : Nat) (num : Int32) (ar : Int32) (sk : Int32) (lc : Int32) (cr : Int32) (fl : Int32) (tra : Nat) (tv : Int32)  : Ctr l g yX10_seenBy wsX10_seenBy ({ frames := 1, cells := 0, slots := 0, locals := 21 } : Room) [.ref b, .ref tra] [(b, .inr (10, [.int num, .int ar, .int sk, .ref lr, .int lc, .int cr, .int fl])), (tra, .inr (9, [.int tv]))] (fun A => QI g A (fun r (_ : Unit) => r = 88) (fun _u : Unit => [(b, .inr (10, [.int num, .int ar, .int sk, .ref lr, .int lc, .int cr, .int fl])), (tra, .inr (9, [.int ((31 * tv) + 5)]))])) := by
  refine Ctr.of (cc := cX10_seenBy) (maxL := 2) (ret := (some .int)) (by decide) rfl (Nat.le_of_ble_eq_true rfl) ?_
  intro p e s m below meth c A ls H C hP hD hA hS hl
  obtain ⟨hx, hb, hr, hts, hown, hlocks, hml, hin, hKN⟩ := id C
  have hK := hKN.1
  have hN := hKN.2
  have F : CallFix p m c cX10_seenBy 2 s _ wsX10_seenBy yX10_seenBy.cls := ⟨hx, hb, hml, hown, hts⟩
  have hl : lv_has ls 2 [(0, .ref b), (1, .ref tra)] := hl
  refine lv_aload_n hx hb dX10_seenBy_0 rfl (lv_at hl 1 rfl) ?_
  refine lv_iconst (v := 5) hx hb dX10_seenBy_1 (by decide) ?_
  refine kV (rnV (As := [.int 5]) (rest := []) (Cn := RX9) C (t_leave l g tra tv 5) 1 gX10_seenBy_X9_leave rfl (by decide +kernel) ⟨(Nat.le_of_ble_eq_true rfl), (Nat.le_of_ble_eq_true rfl)⟩ hP (k := 1) (ci := 9) rfl rfl rfl rfl hl.1 rfl (Nat.le_of_ble_eq_true rfl) dX10_seenBy_2 ⟨(Nat.le_of_ble_eq_true rfl), (Nat.le_of_ble_eq_true rfl)⟩) (spM0 [false, true] hP hD rfl) hA hS (fun u2 H locs hw hP hD hS => ?_)
  replace hP : va_P g.1 vwCl [(b, .inr (10, [.int num, .int ar, .int sk, .ref lr, .int lc, .int cr, .int fl])), (tra, .inr (9, [.int ((31 * tv) + 5)]))] H := hP
  replace hD : va_D A [(b, .inr (10, [.int num, .int ar, .int sk, .ref lr, .int lc, .int cr, .int fl])), (tra, .inr (9, [.int ((31 * tv) + 5)]))] := hD
  refine lv_bipush (v := 88) hx hb dX10_seenBy_5 (by decide) ?_
  exact retI C hS () rfl (hP.pick [0, 1] rfl) (hD.sub [0, 1] rfl rfl) (Nat.le_of_ble_eq_true rfl) (Nat.le_of_ble_eq_true rfl) dX10_seenBy_7
theorem hc_X0_newLoads_X0 : ∀ w ∈ wsX00, w ∈ wsX0_newLoads := fun w h => List.mem_cons_of_mem _ (List.mem_append_left _ (List.mem_append_left _ (List.mem_append_right _ h)))
set_option maxRecDepth 100000 in
set_option maxHeartbeats 4000000 in
theorem z0_newLoads (l : Launch) (g : Gt) (b : Nat) (lr : Nat) (num : Int32) (ar : Int32) (sk : Int32) (lc : Int32) (cr : Int32) (fl : Int32) (row : Nat → Int32) (cl_ : Nat) (fcl : Nat → Int32) (ii : Int32) (n : Int32)  : Ctr l g yX0_newLoads wsX0_newLoads ({ frames := 1, cells := 0, slots := 0, locals := 22 } : Room) [.ref b, .ref cl_, .int ii, .int n] [(b, .inr (0, [.int num, .int ar, .int sk, .ref lr, .int lc, .int cr, .int fl])), (lr, .inl (g.2 0, 10, .inl row)), (cl_, .inl (g.2 0, 20, .inl fcl))] (fun A => QV g A (fun (u : Int32 × (Nat → Int32)) => (u.1 = n) ∧ (u.2 = forX n (nlF fcl ii) 0 row)) (fun (u : Int32 × (Nat → Int32)) => [(b, .inr (0, [.int num, .int ar, .int sk, .ref lr, .int u.1, .int cr, .int fl])), (lr, .inl (g.2 0, 10, .inl u.2)), (cl_, .inl (g.2 0, 20, .inl fcl))])) := by
  refine Ctr.of (cc := cX0_newLoads) (maxL := 5) (ret := none) (by decide) rfl (Nat.le_of_ble_eq_true rfl) ?_
  intro p e s m below meth c A ls H C hP hD hA hS hl
  obtain ⟨hx, hb, hr, hts, hown, hlocks, hml, hin, hKN⟩ := id C
  have hK := hKN.1
  have hN := hKN.2
  have F : CallFix p m c cX0_newLoads 5 s _ wsX0_newLoads yX0_newLoads.cls := ⟨hx, hb, hml, hown, hts⟩
  have hl : lv_has ls 5 [(0, .ref b), (1, .ref cl_), (2, .int ii), (3, .int n)] := hl
  refine lv_aload_n hx hb dX0_newLoads_0 rfl (lv_at hl 0 rfl) ?_
  refine lv_iload_n hx hb dX0_newLoads_1 rfl (lv_at hl 3 rfl) ?_
  refine va_put (D := g.1) (ci := 0) (v := .int n) (ty := .int) (C := RX0) (T := TX0) (N := 7) hx hb hts hc_X0_newLoads_X0 tyX0 tyX0_ok nmX0 hown hK hP hD hS 0 rfl rfl 4 (by decide) (hts (.fieldLink RX0 15 "OilPush$Cylinder" "loadCount" "I") (by decide +kernel)) (fun _ h => h) rfl (by decide +kernel) rfl rfl (Nat.le_of_ble_eq_true rfl) dX0_newLoads_2 (fun H locs hP hD hS => ?_)
  replace hP : va_P g.1 vwCl [(b, .inr (0, [.int num, .int ar, .int sk, .ref lr, .int n, .int cr, .int fl])), (lr, .inl (g.2 0, 10, .inl row)), (cl_, .inl (g.2 0, 20, .inl fcl))] H := hP
  replace hD : va_D A [(b, .inr (0, [.int num, .int ar, .int sk, .ref lr, .int n, .int cr, .int fl])), (lr, .inl (g.2 0, 10, .inl row)), (cl_, .inl (g.2 0, 20, .inl fcl))] := hD
  refine lv_iconst (v := 0) hx hb dX0_newLoads_5 (by decide) ?_
  refine lv_istore (lv' := [(4, .int 0), (0, .ref b), (1, .ref cl_), (2, .int ii), (3, .int n)]) hx hb dX0_newLoads_6 hl (by decide) rfl (fun ls hl => ?_)
  refine W.loop (α := (Nat → Int32) × Int32) (P := fun z ls H locs => (forX n (nlF fcl ii) z.2 z.1 = forX n (nlF fcl ii) 0 row) ∧ lv_has ls 5 [(4, .int z.2), (0, .ref b), (1, .ref cl_), (2, .int ii), (3, .int n)] ∧ va_P g.1 vwCl [(b, .inr (0, [.int num, .int ar, .int sk, .ref lr, .int n, .int cr, .int fl])), (lr, .inl (g.2 0, 10, .inl z.1)), (cl_, .inl (g.2 0, 20, .inl fcl))] H ∧ va_D A [(b, .inr (0, [.int num, .int ar, .int sk, .ref lr, .int n, .int cr, .int fl])), (lr, .inl (g.2 0, 10, .inl z.1)), (cl_, .inl (g.2 0, 20, .inl fcl))] ∧ va_S A s.heap H locs) (μ := fun z => (n.toInt - (z.2).toInt).toNat) (row, 0) ⟨rfl, hl, hP, hD, hS⟩ (fun z ls H locs hh ih8 => ?_)
  obtain ⟨alr_8, l4_8⟩ := z
  try dsimp only at hh ih8
  obtain ⟨hiv8, hl, hP, hD, hS⟩ := hh
  have hl : lv_has ls 5 [(4, .int l4_8), (0, .ref b), (1, .ref cl_), (2, .int ii), (3, .int n)] := hl
  replace hP : va_P g.1 vwCl [(b, .inr (0, [.int num, .int ar, .int sk, .ref lr, .int n, .int cr, .int fl])), (lr, .inl (g.2 0, 10, .inl alr_8)), (cl_, .inl (g.2 0, 20, .inl fcl))] H := hP
  replace hD : va_D A [(b, .inr (0, [.int num, .int ar, .int sk, .ref lr, .int n, .int cr, .int fl])), (lr, .inl (g.2 0, 10, .inl alr_8)), (cl_, .inl (g.2 0, 20, .inl fcl))] := hD
  refine lv_iload hx hb dX0_newLoads_8 (lv_at hl 0 rfl) ?_
  refine lv_iload_n hx hb dX0_newLoads_10 rfl (lv_at hl 4 rfl) ?_
  refine lv_icmp_ge (tgt := 37) hx hb dX0_newLoads_11 (by decide) (fun c1 => ?_) (fun c1 => ?_)
  · exact retV C hS (n, alr_8) ⟨rfl, (forX_out c1 hiv8)⟩ hP hD (Nat.le_of_ble_eq_true rfl) (Nat.le_of_ble_eq_true rfl) dX0_newLoads_37
  refine lv_aload_n hx hb dX0_newLoads_14 rfl (lv_at hl 1 rfl) ?_
  refine va_get (D := g.1) (ci := 0) (v := .ref lr) (C := RX0) (T := TX0) (N := 7) hx hb hts hc_X0_newLoads_X0 hown hK hP 0 rfl rfl 3 (by decide) (hts (.fieldLink RX0 9 "OilPush$Cylinder" "loads" "[I") (by decide +kernel)) (fun _ h => h) rfl dX0_newLoads_15 ?_
  refine lv_iload hx hb dX0_newLoads_18 (lv_at hl 0 rfl) ?_
  refine lv_aload_n hx hb dX0_newLoads_20 rfl (lv_at hl 2 rfl) ?_
  refine lv_iload_n hx hb dX0_newLoads_21 rfl (lv_at hl 3 rfl) ?_
  refine lv_iload hx hb dX0_newLoads_22 (lv_at hl 0 rfl) ?_
  refine lv_iadd hx hb dX0_newLoads_24 ?_
  refine kI (rnN (host := "OilPush") (As := [.ref cl_, .int (ii + l4_8)]) (rest := [.int l4_8, .ref lr]) C (c_get l g cl_ 20 fcl (ii + l4_8) (by decide)) 2 gX0_newLoads_X11_get_n41 rfl (nst_10 hN) (by decide +kernel) (by decide +kernel) (by decide +kernel) ⟨(Nat.le_of_ble_eq_true rfl), (Nat.le_of_ble_eq_true rfl)⟩ rfl hl.1 rfl (Nat.le_of_ble_eq_true rfl) dX0_newLoads_25 ⟨(Nat.le_of_ble_eq_true rfl), (Nat.le_of_ble_eq_true rfl)⟩) (spM0 [false, false, true] hP hD rfl) hA hS (fun r2 u3 H locs hw hP hD hS => ?_)
  have hre := hw
  replace hP : va_P g.1 vwCl [(b, .inr (0, [.int num, .int ar, .int sk, .ref lr, .int n, .int cr, .int fl])), (lr, .inl (g.2 0, 10, .inl alr_8)), (cl_, .inl (g.2 0, 20, .inl fcl))] H := hP
  replace hD : va_D A [(b, .inr (0, [.int num, .int ar, .int sk, .ref lr, .int n, .int cr, .int fl])), (lr, .inl (g.2 0, 10, .inl alr_8)), (cl_, .inl (g.2 0, 20, .inl fcl))] := hD
  refine nx_i (v := (r_c_get 20 fcl (ii + l4_8))) hre ?_
  refine kV (rnN (host := "OilPush") (As := [.ref lr, .int l4_8, .int (r_c_get 20 fcl (ii + l4_8))]) (rest := []) C (c_set l g lr 10 alr_8 l4_8 (r_c_get 20 fcl (ii + l4_8)) (by decide)) 3 gX0_newLoads_X11_set_n55 rfl (nst_11 hN) (by decide +kernel) (by decide +kernel) (by decide +kernel) ⟨(Nat.le_of_ble_eq_true rfl), (Nat.le_of_ble_eq_true rfl)⟩ rfl hl.1 rfl (Nat.le_of_ble_eq_true rfl) dX0_newLoads_28 ⟨(Nat.le_of_ble_eq_true rfl), (Nat.le_of_ble_eq_true rfl)⟩) (spM0 [false, true, false] hP hD rfl) hA hS (fun u5 H locs hw hP hD hS => ?_)
  replace hP : va_P g.1 vwCl [(b, .inr (0, [.int num, .int ar, .int sk, .ref lr, .int n, .int cr, .int fl])), (lr, .inl (g.2 0, 10, .inl (r_c_set 10 alr_8 l4_8 (r_c_get 20 fcl (ii + l4_8))))), (cl_, .inl (g.2 0, 20, .inl fcl))] H := hP
  replace hD : va_D A [(b, .inr (0, [.int num, .int ar, .int sk, .ref lr, .int n, .int cr, .int fl])), (lr, .inl (g.2 0, 10, .inl (r_c_set 10 alr_8 l4_8 (r_c_get 20 fcl (ii + l4_8))))), (cl_, .inl (g.2 0, 20, .inl fcl))] := hD
  refine lv_iinc (v := (l4_8 + 1)) (lv' := [(4, .int (l4_8 + 1)), (0, .ref b), (1, .ref cl_), (2, .int ii), (3, .int n)]) hx hb dX0_newLoads_31 hl (k := 0) rfl rfl (by decide) rfl (fun ls hl => ?_)
  refine lv_goto (tgt := 8) hx hb dX0_newLoads_34 (by decide) ?_
  exact ih8 ((r_c_set 10 alr_8 l4_8 (r_c_get 20 fcl (ii + l4_8))), (l4_8 + 1)) ls H locs ⟨(forX_back c1 rfl hiv8), lv_sub hl [0, 1, 2, 3, 4] rfl, hP, hD, hS⟩ (inc_mu2 c1)
theorem hc_X0_newLoads_X2 : ∀ w ∈ wsX20, w ∈ wsX0_newLoads := fun w h => List.mem_cons_of_mem _ (List.mem_append_left _ (List.mem_append_right _ h))
set_option maxRecDepth 100000 in
set_option maxHeartbeats 4000000 in
theorem z2_newLoads (l : Launch) (g : Gt) (b : Nat) (lr : Nat) (num : Int32) (ar : Int32) (sk : Int32) (lc : Int32) (cr : Int32) (fl : Int32) (row : Nat → Int32) (cl_ : Nat) (fcl : Nat → Int32) (ii : Int32) (n : Int32)  : Ctr l g yX0_newLoads wsX0_newLoads ({ frames := 1, cells := 0, slots := 0, locals := 22 } : Room) [.ref b, .ref cl_, .int ii, .int n] [(b, .inr (2, [.int num, .int ar, .int sk, .ref lr, .int lc, .int cr, .int fl])), (lr, .inl (g.2 0, 10, .inl row)), (cl_, .inl (g.2 0, 20, .inl fcl))] (fun A => QV g A (fun (u : Int32 × (Nat → Int32)) => (u.1 = n) ∧ (u.2 = forX n (nlF fcl ii) 0 row)) (fun (u : Int32 × (Nat → Int32)) => [(b, .inr (2, [.int num, .int ar, .int sk, .ref lr, .int u.1, .int cr, .int fl])), (lr, .inl (g.2 0, 10, .inl u.2)), (cl_, .inl (g.2 0, 20, .inl fcl))])) := by
  refine Ctr.of (cc := cX0_newLoads) (maxL := 5) (ret := none) (by decide) rfl (Nat.le_of_ble_eq_true rfl) ?_
  intro p e s m below meth c A ls H C hP hD hA hS hl
  obtain ⟨hx, hb, hr, hts, hown, hlocks, hml, hin, hKN⟩ := id C
  have hK := hKN.1
  have hN := hKN.2
  have F : CallFix p m c cX0_newLoads 5 s _ wsX0_newLoads yX0_newLoads.cls := ⟨hx, hb, hml, hown, hts⟩
  have hl : lv_has ls 5 [(0, .ref b), (1, .ref cl_), (2, .int ii), (3, .int n)] := hl
  refine lv_aload_n hx hb dX0_newLoads_0 rfl (lv_at hl 0 rfl) ?_
  refine lv_iload_n hx hb dX0_newLoads_1 rfl (lv_at hl 3 rfl) ?_
  refine va_put (D := g.1) (ci := 2) (v := .int n) (ty := .int) (C := RX2) (T := TX2) (N := 7) hx hb hts hc_X0_newLoads_X2 tyX2 tyX2_ok nmX2 hown hK hP hD hS 0 rfl rfl 4 (by decide) (hts (.fieldLink RX0 15 "OilPush$Cylinder" "loadCount" "I") (by decide +kernel)) (fun _ h => h) rfl (by decide +kernel) rfl rfl (Nat.le_of_ble_eq_true rfl) dX0_newLoads_2 (fun H locs hP hD hS => ?_)
  replace hP : va_P g.1 vwCl [(b, .inr (2, [.int num, .int ar, .int sk, .ref lr, .int n, .int cr, .int fl])), (lr, .inl (g.2 0, 10, .inl row)), (cl_, .inl (g.2 0, 20, .inl fcl))] H := hP
  replace hD : va_D A [(b, .inr (2, [.int num, .int ar, .int sk, .ref lr, .int n, .int cr, .int fl])), (lr, .inl (g.2 0, 10, .inl row)), (cl_, .inl (g.2 0, 20, .inl fcl))] := hD
  refine lv_iconst (v := 0) hx hb dX0_newLoads_5 (by decide) ?_
  refine lv_istore (lv' := [(4, .int 0), (0, .ref b), (1, .ref cl_), (2, .int ii), (3, .int n)]) hx hb dX0_newLoads_6 hl (by decide) rfl (fun ls hl => ?_)
  refine W.loop (α := (Nat → Int32) × Int32) (P := fun z ls H locs => (forX n (nlF fcl ii) z.2 z.1 = forX n (nlF fcl ii) 0 row) ∧ lv_has ls 5 [(4, .int z.2), (0, .ref b), (1, .ref cl_), (2, .int ii), (3, .int n)] ∧ va_P g.1 vwCl [(b, .inr (2, [.int num, .int ar, .int sk, .ref lr, .int n, .int cr, .int fl])), (lr, .inl (g.2 0, 10, .inl z.1)), (cl_, .inl (g.2 0, 20, .inl fcl))] H ∧ va_D A [(b, .inr (2, [.int num, .int ar, .int sk, .ref lr, .int n, .int cr, .int fl])), (lr, .inl (g.2 0, 10, .inl z.1)), (cl_, .inl (g.2 0, 20, .inl fcl))] ∧ va_S A s.heap H locs) (μ := fun z => (n.toInt - (z.2).toInt).toNat) (row, 0) ⟨rfl, hl, hP, hD, hS⟩ (fun z ls H locs hh ih8 => ?_)
  obtain ⟨alr_8, l4_8⟩ := z
  try dsimp only at hh ih8
  obtain ⟨hiv8, hl, hP, hD, hS⟩ := hh
  have hl : lv_has ls 5 [(4, .int l4_8), (0, .ref b), (1, .ref cl_), (2, .int ii), (3, .int n)] := hl
  replace hP : va_P g.1 vwCl [(b, .inr (2, [.int num, .int ar, .int sk, .ref lr, .int n, .int cr, .int fl])), (lr, .inl (g.2 0, 10, .inl alr_8)), (cl_, .inl (g.2 0, 20, .inl fcl))] H := hP
  replace hD : va_D A [(b, .inr (2, [.int num, .int ar, .int sk, .ref lr, .int n, .int cr, .int fl])), (lr, .inl (g.2 0, 10, .inl alr_8)), (cl_, .inl (g.2 0, 20, .inl fcl))] := hD
  refine lv_iload hx hb dX0_newLoads_8 (lv_at hl 0 rfl) ?_
  refine lv_iload_n hx hb dX0_newLoads_10 rfl (lv_at hl 4 rfl) ?_
  refine lv_icmp_ge (tgt := 37) hx hb dX0_newLoads_11 (by decide) (fun c1 => ?_) (fun c1 => ?_)
  · exact retV C hS (n, alr_8) ⟨rfl, (forX_out c1 hiv8)⟩ hP hD (Nat.le_of_ble_eq_true rfl) (Nat.le_of_ble_eq_true rfl) dX0_newLoads_37
  refine lv_aload_n hx hb dX0_newLoads_14 rfl (lv_at hl 1 rfl) ?_
  refine va_get (D := g.1) (ci := 2) (v := .ref lr) (C := RX2) (T := TX2) (N := 7) hx hb hts hc_X0_newLoads_X2 hown hK hP 0 rfl rfl 3 (by decide) (hts (.fieldLink RX0 9 "OilPush$Cylinder" "loads" "[I") (by decide +kernel)) (fun _ h => h) rfl dX0_newLoads_15 ?_
  refine lv_iload hx hb dX0_newLoads_18 (lv_at hl 0 rfl) ?_
  refine lv_aload_n hx hb dX0_newLoads_20 rfl (lv_at hl 2 rfl) ?_
  refine lv_iload_n hx hb dX0_newLoads_21 rfl (lv_at hl 3 rfl) ?_
  refine lv_iload hx hb dX0_newLoads_22 (lv_at hl 0 rfl) ?_
  refine lv_iadd hx hb dX0_newLoads_24 ?_
  refine kI (rnN (host := "OilPush") (As := [.ref cl_, .int (ii + l4_8)]) (rest := [.int l4_8, .ref lr]) C (c_get l g cl_ 20 fcl (ii + l4_8) (by decide)) 2 gX0_newLoads_X11_get_n41 rfl (nst_10 hN) (by decide +kernel) (by decide +kernel) (by decide +kernel) ⟨(Nat.le_of_ble_eq_true rfl), (Nat.le_of_ble_eq_true rfl)⟩ rfl hl.1 rfl (Nat.le_of_ble_eq_true rfl) dX0_newLoads_25 ⟨(Nat.le_of_ble_eq_true rfl), (Nat.le_of_ble_eq_true rfl)⟩) (spM0 [false, false, true] hP hD rfl) hA hS (fun r2 u3 H locs hw hP hD hS => ?_)
  have hre := hw
  replace hP : va_P g.1 vwCl [(b, .inr (2, [.int num, .int ar, .int sk, .ref lr, .int n, .int cr, .int fl])), (lr, .inl (g.2 0, 10, .inl alr_8)), (cl_, .inl (g.2 0, 20, .inl fcl))] H := hP
  replace hD : va_D A [(b, .inr (2, [.int num, .int ar, .int sk, .ref lr, .int n, .int cr, .int fl])), (lr, .inl (g.2 0, 10, .inl alr_8)), (cl_, .inl (g.2 0, 20, .inl fcl))] := hD
  refine nx_i (v := (r_c_get 20 fcl (ii + l4_8))) hre ?_
  refine kV (rnN (host := "OilPush") (As := [.ref lr, .int l4_8, .int (r_c_get 20 fcl (ii + l4_8))]) (rest := []) C (c_set l g lr 10 alr_8 l4_8 (r_c_get 20 fcl (ii + l4_8)) (by decide)) 3 gX0_newLoads_X11_set_n55 rfl (nst_11 hN) (by decide +kernel) (by decide +kernel) (by decide +kernel) ⟨(Nat.le_of_ble_eq_true rfl), (Nat.le_of_ble_eq_true rfl)⟩ rfl hl.1 rfl (Nat.le_of_ble_eq_true rfl) dX0_newLoads_28 ⟨(Nat.le_of_ble_eq_true rfl), (Nat.le_of_ble_eq_true rfl)⟩) (spM0 [false, true, false] hP hD rfl) hA hS (fun u5 H locs hw hP hD hS => ?_)
  replace hP : va_P g.1 vwCl [(b, .inr (2, [.int num, .int ar, .int sk, .ref lr, .int n, .int cr, .int fl])), (lr, .inl (g.2 0, 10, .inl (r_c_set 10 alr_8 l4_8 (r_c_get 20 fcl (ii + l4_8))))), (cl_, .inl (g.2 0, 20, .inl fcl))] H := hP
  replace hD : va_D A [(b, .inr (2, [.int num, .int ar, .int sk, .ref lr, .int n, .int cr, .int fl])), (lr, .inl (g.2 0, 10, .inl (r_c_set 10 alr_8 l4_8 (r_c_get 20 fcl (ii + l4_8))))), (cl_, .inl (g.2 0, 20, .inl fcl))] := hD
  refine lv_iinc (v := (l4_8 + 1)) (lv' := [(4, .int (l4_8 + 1)), (0, .ref b), (1, .ref cl_), (2, .int ii), (3, .int n)]) hx hb dX0_newLoads_31 hl (k := 0) rfl rfl (by decide) rfl (fun ls hl => ?_)
  refine lv_goto (tgt := 8) hx hb dX0_newLoads_34 (by decide) ?_
  exact ih8 ((r_c_set 10 alr_8 l4_8 (r_c_get 20 fcl (ii + l4_8))), (l4_8 + 1)) ls H locs ⟨(forX_back c1 rfl hiv8), lv_sub hl [0, 1, 2, 3, 4] rfl, hP, hD, hS⟩ (inc_mu2 c1)
theorem hc_X0_newLoads_X10 : ∀ w ∈ wsX100, w ∈ wsX0_newLoads := fun w h => List.mem_cons_of_mem _ (List.mem_append_right _ h)
set_option maxRecDepth 100000 in
set_option maxHeartbeats 4000000 in
theorem z10_newLoads (l : Launch) (g : Gt) (b : Nat) (lr : Nat) (num : Int32) (ar : Int32) (sk : Int32) (lc : Int32) (cr : Int32) (fl : Int32) (row : Nat → Int32) (cl_ : Nat) (fcl : Nat → Int32) (ii : Int32) (n : Int32)  : Ctr l g yX0_newLoads wsX0_newLoads ({ frames := 1, cells := 0, slots := 0, locals := 22 } : Room) [.ref b, .ref cl_, .int ii, .int n] [(b, .inr (10, [.int num, .int ar, .int sk, .ref lr, .int lc, .int cr, .int fl])), (lr, .inl (g.2 0, 10, .inl row)), (cl_, .inl (g.2 0, 20, .inl fcl))] (fun A => QV g A (fun (u : Int32 × (Nat → Int32)) => (u.1 = n) ∧ (u.2 = forX n (nlF fcl ii) 0 row)) (fun (u : Int32 × (Nat → Int32)) => [(b, .inr (10, [.int num, .int ar, .int sk, .ref lr, .int u.1, .int cr, .int fl])), (lr, .inl (g.2 0, 10, .inl u.2)), (cl_, .inl (g.2 0, 20, .inl fcl))])) := by
  refine Ctr.of (cc := cX0_newLoads) (maxL := 5) (ret := none) (by decide) rfl (Nat.le_of_ble_eq_true rfl) ?_
  intro p e s m below meth c A ls H C hP hD hA hS hl
  obtain ⟨hx, hb, hr, hts, hown, hlocks, hml, hin, hKN⟩ := id C
  have hK := hKN.1
  have hN := hKN.2
  have F : CallFix p m c cX0_newLoads 5 s _ wsX0_newLoads yX0_newLoads.cls := ⟨hx, hb, hml, hown, hts⟩
  have hl : lv_has ls 5 [(0, .ref b), (1, .ref cl_), (2, .int ii), (3, .int n)] := hl
  refine lv_aload_n hx hb dX0_newLoads_0 rfl (lv_at hl 0 rfl) ?_
  refine lv_iload_n hx hb dX0_newLoads_1 rfl (lv_at hl 3 rfl) ?_
  refine va_put (D := g.1) (ci := 10) (v := .int n) (ty := .int) (C := RX10) (T := TX10) (N := 7) hx hb hts hc_X0_newLoads_X10 tyX10 tyX10_ok nmX10 hown hK hP hD hS 0 rfl rfl 4 (by decide) (hts (.fieldLink RX0 15 "OilPush$Cylinder" "loadCount" "I") (by decide +kernel)) (fun _ h => h) rfl (by decide +kernel) rfl rfl (Nat.le_of_ble_eq_true rfl) dX0_newLoads_2 (fun H locs hP hD hS => ?_)
  replace hP : va_P g.1 vwCl [(b, .inr (10, [.int num, .int ar, .int sk, .ref lr, .int n, .int cr, .int fl])), (lr, .inl (g.2 0, 10, .inl row)), (cl_, .inl (g.2 0, 20, .inl fcl))] H := hP
  replace hD : va_D A [(b, .inr (10, [.int num, .int ar, .int sk, .ref lr, .int n, .int cr, .int fl])), (lr, .inl (g.2 0, 10, .inl row)), (cl_, .inl (g.2 0, 20, .inl fcl))] := hD
  refine lv_iconst (v := 0) hx hb dX0_newLoads_5 (by decide) ?_
  refine lv_istore (lv' := [(4, .int 0), (0, .ref b), (1, .ref cl_), (2, .int ii), (3, .int n)]) hx hb dX0_newLoads_6 hl (by decide) rfl (fun ls hl => ?_)
  refine W.loop (α := (Nat → Int32) × Int32) (P := fun z ls H locs => (forX n (nlF fcl ii) z.2 z.1 = forX n (nlF fcl ii) 0 row) ∧ lv_has ls 5 [(4, .int z.2), (0, .ref b), (1, .ref cl_), (2, .int ii), (3, .int n)] ∧ va_P g.1 vwCl [(b, .inr (10, [.int num, .int ar, .int sk, .ref lr, .int n, .int cr, .int fl])), (lr, .inl (g.2 0, 10, .inl z.1)), (cl_, .inl (g.2 0, 20, .inl fcl))] H ∧ va_D A [(b, .inr (10, [.int num, .int ar, .int sk, .ref lr, .int n, .int cr, .int fl])), (lr, .inl (g.2 0, 10, .inl z.1)), (cl_, .inl (g.2 0, 20, .inl fcl))] ∧ va_S A s.heap H locs) (μ := fun z => (n.toInt - (z.2).toInt).toNat) (row, 0) ⟨rfl, hl, hP, hD, hS⟩ (fun z ls H locs hh ih8 => ?_)
  obtain ⟨alr_8, l4_8⟩ := z
  try dsimp only at hh ih8
  obtain ⟨hiv8, hl, hP, hD, hS⟩ := hh
  have hl : lv_has ls 5 [(4, .int l4_8), (0, .ref b), (1, .ref cl_), (2, .int ii), (3, .int n)] := hl
  replace hP : va_P g.1 vwCl [(b, .inr (10, [.int num, .int ar, .int sk, .ref lr, .int n, .int cr, .int fl])), (lr, .inl (g.2 0, 10, .inl alr_8)), (cl_, .inl (g.2 0, 20, .inl fcl))] H := hP
  replace hD : va_D A [(b, .inr (10, [.int num, .int ar, .int sk, .ref lr, .int n, .int cr, .int fl])), (lr, .inl (g.2 0, 10, .inl alr_8)), (cl_, .inl (g.2 0, 20, .inl fcl))] := hD
  refine lv_iload hx hb dX0_newLoads_8 (lv_at hl 0 rfl) ?_
  refine lv_iload_n hx hb dX0_newLoads_10 rfl (lv_at hl 4 rfl) ?_
  refine lv_icmp_ge (tgt := 37) hx hb dX0_newLoads_11 (by decide) (fun c1 => ?_) (fun c1 => ?_)
  · exact retV C hS (n, alr_8) ⟨rfl, (forX_out c1 hiv8)⟩ hP hD (Nat.le_of_ble_eq_true rfl) (Nat.le_of_ble_eq_true rfl) dX0_newLoads_37
  refine lv_aload_n hx hb dX0_newLoads_14 rfl (lv_at hl 1 rfl) ?_
  refine va_get (D := g.1) (ci := 10) (v := .ref lr) (C := RX10) (T := TX10) (N := 7) hx hb hts hc_X0_newLoads_X10 hown hK hP 0 rfl rfl 3 (by decide) (hts (.fieldLink RX0 9 "OilPush$Cylinder" "loads" "[I") (by decide +kernel)) (fun _ h => h) rfl dX0_newLoads_15 ?_
  refine lv_iload hx hb dX0_newLoads_18 (lv_at hl 0 rfl) ?_
  refine lv_aload_n hx hb dX0_newLoads_20 rfl (lv_at hl 2 rfl) ?_
  refine lv_iload_n hx hb dX0_newLoads_21 rfl (lv_at hl 3 rfl) ?_
  refine lv_iload hx hb dX0_newLoads_22 (lv_at hl 0 rfl) ?_
  refine lv_iadd hx hb dX0_newLoads_24 ?_
  refine kI (rnN (host := "OilPush") (As := [.ref cl_, .int (ii + l4_8)]) (rest := [.int l4_8, .ref lr]) C (c_get l g cl_ 20 fcl (ii + l4_8) (by decide)) 2 gX0_newLoads_X11_get_n41 rfl (nst_10 hN) (by decide +kernel) (by decide +kernel) (by decide +kernel) ⟨(Nat.le_of_ble_eq_true rfl), (Nat.le_of_ble_eq_true rfl)⟩ rfl hl.1 rfl (Nat.le_of_ble_eq_true rfl) dX0_newLoads_25 ⟨(Nat.le_of_ble_eq_true rfl), (Nat.le_of_ble_eq_true rfl)⟩) (spM0 [false, false, true] hP hD rfl) hA hS (fun r2 u3 H locs hw hP hD hS => ?_)
  have hre := hw
  replace hP : va_P g.1 vwCl [(b, .inr (10, [.int num, .int ar, .int sk, .ref lr, .int n, .int cr, .int fl])), (lr, .inl (g.2 0, 10, .inl alr_8)), (cl_, .inl (g.2 0, 20, .inl fcl))] H := hP
  replace hD : va_D A [(b, .inr (10, [.int num, .int ar, .int sk, .ref lr, .int n, .int cr, .int fl])), (lr, .inl (g.2 0, 10, .inl alr_8)), (cl_, .inl (g.2 0, 20, .inl fcl))] := hD
  refine nx_i (v := (r_c_get 20 fcl (ii + l4_8))) hre ?_
  refine kV (rnN (host := "OilPush") (As := [.ref lr, .int l4_8, .int (r_c_get 20 fcl (ii + l4_8))]) (rest := []) C (c_set l g lr 10 alr_8 l4_8 (r_c_get 20 fcl (ii + l4_8)) (by decide)) 3 gX0_newLoads_X11_set_n55 rfl (nst_11 hN) (by decide +kernel) (by decide +kernel) (by decide +kernel) ⟨(Nat.le_of_ble_eq_true rfl), (Nat.le_of_ble_eq_true rfl)⟩ rfl hl.1 rfl (Nat.le_of_ble_eq_true rfl) dX0_newLoads_28 ⟨(Nat.le_of_ble_eq_true rfl), (Nat.le_of_ble_eq_true rfl)⟩) (spM0 [false, true, false] hP hD rfl) hA hS (fun u5 H locs hw hP hD hS => ?_)
  replace hP : va_P g.1 vwCl [(b, .inr (10, [.int num, .int ar, .int sk, .ref lr, .int n, .int cr, .int fl])), (lr, .inl (g.2 0, 10, .inl (r_c_set 10 alr_8 l4_8 (r_c_get 20 fcl (ii + l4_8))))), (cl_, .inl (g.2 0, 20, .inl fcl))] H := hP
  replace hD : va_D A [(b, .inr (10, [.int num, .int ar, .int sk, .ref lr, .int n, .int cr, .int fl])), (lr, .inl (g.2 0, 10, .inl (r_c_set 10 alr_8 l4_8 (r_c_get 20 fcl (ii + l4_8))))), (cl_, .inl (g.2 0, 20, .inl fcl))] := hD
  refine lv_iinc (v := (l4_8 + 1)) (lv' := [(4, .int (l4_8 + 1)), (0, .ref b), (1, .ref cl_), (2, .int ii), (3, .int n)]) hx hb dX0_newLoads_31 hl (k := 0) rfl rfl (by decide) rfl (fun ls hl => ?_)
  refine lv_goto (tgt := 8) hx hb dX0_newLoads_34 (by decide) ?_
  exact ih8 ((r_c_set 10 alr_8 l4_8 (r_c_get 20 fcl (ii + l4_8))), (l4_8 + 1)) ls H locs ⟨(forX_back c1 rfl hiv8), lv_sub hl [0, 1, 2, 3, 4] rfl, hP, hD, hS⟩ (inc_mu2 c1)
theorem hc_X11_tell_X11 : ∀ w ∈ wsX110, w ∈ wsX11_tell := fun w h => List.mem_cons_of_mem _ (List.mem_append_left _ (List.mem_append_left _ (List.mem_append_left _ (List.mem_append_right _ h))))
theorem hc_X11_tell_X7 : ∀ w ∈ wsX70, w ∈ wsX11_tell := fun w h => List.mem_cons_of_mem _ (List.mem_append_left _ (List.mem_append_left _ (List.mem_append_right _ h)))
set_option maxRecDepth 100000 in
set_option maxHeartbeats 4000000 in
theorem x_tell (l : Launch) (g : Gt) (h0 : Nat) (sha : Nat) (tra : Nat) (lf : Int32) (std : Int32) (tkd : Int32) (tck : Int32) (sa : Nat) (ea : Nat) (oa : Nat) (tsa : Nat) (usa : Nat) (vea : Nat) (lka : Nat) (ra : Nat) (pl : Nat) (gv : Int32) (lim : Int32) (ca : Nat) (cnt : Int32) (la : Nat) (fc : Nat → Option Nat) (so : Nat) (sv : Nat) (sb : Nat) (ss : Nat) (wt : Int32) (fo : Nat → Int32) (tv : Int32) (cy : Int32) (cs : List Cy) (hcs : CS cs cnt fc) : Ctr l g yX11_tell wsX11_tell ({ frames := 3, cells := 0, slots := 0, locals := 65 } : Room) [.ref h0, .int cy] ([(h0, .inr (11, [.ref pl, .ref sa, .ref ea, .ref oa, .ref tsa, .ref usa, .ref vea, .ref lka, .ref ra, .ref sha, .ref tra, .int lf, .int std, .int tkd, .int tck])), (pl, .inr (4, [.int gv, .int lim, .ref ca, .int cnt, .ref la])), (ca, .inl (g.2 3, 6, .inr (.inr (.inr (.inr fc))))), (sa, .inr (7, [.ref so, .ref sv, .ref sb, .ref ss, .int wt])), (so, .inl (g.2 0, 6, .inl fo)), (tra, .inr (9, [.int tv]))] ++ cysW g cs) (fun A => QI g A (fun r (u : Int32) => (r = st_r cnt (fF yK cs) fo cy) ∧ (u = st_t cnt (fF yK cs) tv cy)) (fun (u : Int32) => ([(h0, .inr (11, [.ref pl, .ref sa, .ref ea, .ref oa, .ref tsa, .ref usa, .ref vea, .ref lka, .ref ra, .ref sha, .ref tra, .int lf, .int std, .int tkd, .int tck])), (pl, .inr (4, [.int gv, .int lim, .ref ca, .int cnt, .ref la])), (ca, .inl (g.2 3, 6, .inr (.inr (.inr (.inr fc))))), (sa, .inr (7, [.ref so, .ref sv, .ref sb, .ref ss, .int wt])), (so, .inl (g.2 0, 6, .inl fo)), (tra, .inr (9, [.int u]))] ++ cysW g cs))) := by
  refine Ctr.of (cc := cX11_tell) (maxL := 3) (ret := (some .int)) (by decide) rfl (Nat.le_of_ble_eq_true rfl) ?_
  intro p e s m below meth c A ls H C hP hD hA hS hl
  obtain ⟨hx, hb, hr, hts, hown, hlocks, hml, hin, hKN⟩ := id C
  have hK := hKN.1
  have hN := hKN.2
  have F : CallFix p m c cX11_tell 3 s _ wsX11_tell yX11_tell.cls := ⟨hx, hb, hml, hown, hts⟩
  have hl : lv_has ls 3 [(0, .ref h0), (1, .int cy)] := hl
  refine lv_aload_n hx hb dX11_tell_0 rfl (lv_at hl 0 rfl) ?_
  refine va_get (D := g.1) (ci := 11) (v := .ref pl) (C := RX11) (T := TX11) (N := 15) hx hb hts hc_X11_tell_X11 hown hK hP 0 rfl rfl 0 (by decide) (hts (.fieldLink RX11 12 "OilPush" "plant" "LOilPush$Plant;") (by decide +kernel)) (fun _ h => h) rfl dX11_tell_1 ?_
  refine lv_iload_n hx hb dX11_tell_4 rfl (lv_at hl 1 rfl) ?_
  refine kQ (rnV (As := [.int cy]) (rest := []) (Cn := RX4) C (p_at l g pl gv lim ca cnt la fc cy) 1 gX11_tell_X4_at rfl (by decide +kernel) ⟨(Nat.le_of_ble_eq_true rfl), (Nat.le_of_ble_eq_true rfl)⟩ hP (k := 1) (ci := 4) rfl rfl rfl rfl hl.1 rfl (Nat.le_of_ble_eq_true rfl) dX11_tell_5 ⟨(Nat.le_of_ble_eq_true rfl), (Nat.le_of_ble_eq_true rfl)⟩) (spM (X := [(h0, .inr (11, [.ref pl, .ref sa, .ref ea, .ref oa, .ref tsa, .ref usa, .ref vea, .ref lka, .ref ra, .ref sha, .ref tra, .int lf, .int std, .int tkd, .int tck])), (pl, .inr (4, [.int gv, .int lim, .ref ca, .int cnt, .ref la])), (ca, .inl (g.2 3, 6, .inr (.inr (.inr (.inr fc))))), (sa, .inr (7, [.ref so, .ref sv, .ref sb, .ref ss, .int wt])), (so, .inl (g.2 0, 6, .inl fo)), (tra, .inr (9, [.int tv]))]) (pl := cysW g cs) [false, true, true, false, false, false] hP hD rfl) hA hS (fun r1 u2 H locs hw hP hD hS => ?_)
  have f3 := hw
  replace hP : va_P g.1 vwCl ([(h0, .inr (11, [.ref pl, .ref sa, .ref ea, .ref oa, .ref tsa, .ref usa, .ref vea, .ref lka, .ref ra, .ref sha, .ref tra, .int lf, .int std, .int tkd, .int tck])), (pl, .inr (4, [.int gv, .int lim, .ref ca, .int cnt, .ref la])), (ca, .inl (g.2 3, 6, .inr (.inr (.inr (.inr fc))))), (sa, .inr (7, [.ref so, .ref sv, .ref sb, .ref ss, .int wt])), (so, .inl (g.2 0, 6, .inl fo)), (tra, .inr (9, [.int tv]))] ++ cysW g cs) H := hP
  replace hD : va_D A ([(h0, .inr (11, [.ref pl, .ref sa, .ref ea, .ref oa, .ref tsa, .ref usa, .ref vea, .ref lka, .ref ra, .ref sha, .ref tra, .int lf, .int std, .int tkd, .int tck])), (pl, .inr (4, [.int gv, .int lim, .ref ca, .int cnt, .ref la])), (ca, .inl (g.2 3, 6, .inr (.inr (.inr (.inr fc))))), (sa, .inr (7, [.ref so, .ref sv, .ref sb, .ref ss, .int wt])), (so, .inl (g.2 0, 6, .inl fo)), (tra, .inr (9, [.int tv]))] ++ cysW g cs) := hD
  rcases at_cases hcs f3 with ⟨hr9, hout⟩ | ⟨l1, y9, l2, hcse, hce, hr9⟩
  · subst hr9
    refine nx_v (v := .null) rfl ?_
    refine lv_astore_nN (lv' := [(2, .null), (0, .ref h0), (1, .int cy)]) hx hb dX11_tell_8 rfl hl (by decide) rfl (fun ls hl => ?_)
    refine lv_aload_nN hx hb dX11_tell_9 rfl (lv_at hl 0 rfl) ?_
    refine lv_ifnonnullN hx hb dX11_tell_10 ?_
    refine lv_iconst (v := -1) hx hb dX11_tell_13 (by decide) ?_
    refine lv_goto (tgt := 36) hx hb dX11_tell_14 (by decide) ?_
    exact retI C hS tv ⟨(by simp only [st_r, sel_3, if_pos hcs, if_pos f3, if_pos (pa_null hcs f3)]), (by simp only [st_t, sel_3, if_pos hcs, if_pos f3, if_pos (pa_null hcs f3)])⟩ hP hD (Nat.le_of_ble_eq_true rfl) (Nat.le_of_ble_eq_true rfl) dX11_tell_36
  subst hr9
  obtain ⟨yb, yr, yk, ynum, yar, ysk, ylc, ycr, yfl, yrow⟩ := y9
  refine nx_v (v := .ref yb) rfl ?_
  rw [hcse] at hP hD
  replace hP := cys_splitP hP
  replace hD := cys_splitD hD
  replace hP : va_P g.1 vwCl ([(h0, .inr (11, [.ref pl, .ref sa, .ref ea, .ref oa, .ref tsa, .ref usa, .ref vea, .ref lka, .ref ra, .ref sha, .ref tra, .int lf, .int std, .int tkd, .int tck])), (pl, .inr (4, [.int gv, .int lim, .ref ca, .int cnt, .ref la])), (ca, .inl (g.2 3, 6, .inr (.inr (.inr (.inr fc))))), (sa, .inr (7, [.ref so, .ref sv, .ref sb, .ref ss, .int wt])), (so, .inl (g.2 0, 6, .inl fo)), (tra, .inr (9, [.int tv])), (yb, .inr (ckI yk, [.int ynum, .int yar, .int ysk, .ref yr, .int ylc, .int ycr, .int yfl])), (yr, .inl (g.2 0, 10, .inl yrow))] ++ (cysW g l1 ++ cysW g l2)) H := hP
  replace hD : va_D A ([(h0, .inr (11, [.ref pl, .ref sa, .ref ea, .ref oa, .ref tsa, .ref usa, .ref vea, .ref lka, .ref ra, .ref sha, .ref tra, .int lf, .int std, .int tkd, .int tck])), (pl, .inr (4, [.int gv, .int lim, .ref ca, .int cnt, .ref la])), (ca, .inl (g.2 3, 6, .inr (.inr (.inr (.inr fc))))), (sa, .inr (7, [.ref so, .ref sv, .ref sb, .ref ss, .int wt])), (so, .inl (g.2 0, 6, .inl fo)), (tra, .inr (9, [.int tv])), (yb, .inr (ckI yk, [.int ynum, .int yar, .int ysk, .ref yr, .int ylc, .int ycr, .int yfl])), (yr, .inl (g.2 0, 10, .inl yrow))] ++ (cysW g l1 ++ cysW g l2)) := hD
  refine lv_astore_n (lv' := [(2, .ref yb), (0, .ref h0), (1, .int cy)]) hx hb dX11_tell_8 rfl hl (by decide) rfl (fun ls hl => ?_)
  refine lv_aload_n hx hb dX11_tell_9 rfl (lv_at hl 0 rfl) ?_
  refine lv_ifnonnull (tgt := 17) hx hb dX11_tell_10 (by decide) ?_
  refine lv_aload_n hx hb dX11_tell_17 rfl (lv_at hl 0 rfl) ?_
  refine lv_aload_n hx hb dX11_tell_18 rfl (lv_at hl 1 rfl) ?_
  refine va_get (D := g.1) (ci := 11) (v := .ref tra) (C := RX11) (T := TX11) (N := 15) hx hb hts hc_X11_tell_X11 hown hK hP 0 rfl rfl 10 (by decide) (hts (.fieldLink RX11 68 "OilPush" "trace" "LOilPush$Trace;") (by decide +kernel)) (fun _ h => h) rfl dX11_tell_19 ?_
  refine lv_aload_n hx hb dX11_tell_22 rfl (lv_at hl 1 rfl) ?_
  refine va_get (D := g.1) (ci := 11) (v := .ref sa) (C := RX11) (T := TX11) (N := 15) hx hb hts hc_X11_tell_X11 hown hK hP 0 rfl rfl 1 (by decide) (hts (.fieldLink RX11 21 "OilPush" "now" "LOilPush$State;") (by decide +kernel)) (fun _ h => h) rfl dX11_tell_23 ?_
  refine va_get (D := g.1) (ci := 7) (v := .ref so) (C := RX7) (T := TX7) (N := 5) hx hb hts hc_X11_tell_X7 hown hK hP 3 rfl rfl 0 (by decide) (hts (.fieldLink RX11 149 "OilPush$State" "oil" "[I") (by decide +kernel)) (fun _ h => h) rfl dX11_tell_26 ?_
  refine lv_iload_n hx hb dX11_tell_29 rfl (lv_at hl 2 rfl) ?_
  refine kI (rnS (As := [.ref so, .int cy]) (rest := [.ref tra, .ref yb]) C (c_get l g so 6 fo cy (by decide)) 2 gX11_tell_X11_get rfl (by decide +kernel) ⟨(Nat.le_of_ble_eq_true rfl), (Nat.le_of_ble_eq_true rfl)⟩ rfl hl.1 rfl (Nat.le_of_ble_eq_true rfl) dX11_tell_30 ⟨(Nat.le_of_ble_eq_true rfl), (Nat.le_of_ble_eq_true rfl)⟩) (spM (X := [(h0, .inr (11, [.ref pl, .ref sa, .ref ea, .ref oa, .ref tsa, .ref usa, .ref vea, .ref lka, .ref ra, .ref sha, .ref tra, .int lf, .int std, .int tkd, .int tck])), (pl, .inr (4, [.int gv, .int lim, .ref ca, .int cnt, .ref la])), (ca, .inl (g.2 3, 6, .inr (.inr (.inr (.inr fc))))), (sa, .inr (7, [.ref so, .ref sv, .ref sb, .ref ss, .int wt])), (so, .inl (g.2 0, 6, .inl fo)), (tra, .inr (9, [.int tv])), (yb, .inr (ckI yk, [.int ynum, .int yar, .int ysk, .ref yr, .int ylc, .int ycr, .int yfl])), (yr, .inl (g.2 0, 10, .inl yrow))]) (pl := (cysW g l1 ++ cysW g l2)) [false, false, false, false, true, false, false, false] hP hD rfl) hA hS (fun r4 u5 H locs hw hP hD hS => ?_)
  have hre := hw
  replace hP : va_P g.1 vwCl ([(h0, .inr (11, [.ref pl, .ref sa, .ref ea, .ref oa, .ref tsa, .ref usa, .ref vea, .ref lka, .ref ra, .ref sha, .ref tra, .int lf, .int std, .int tkd, .int tck])), (pl, .inr (4, [.int gv, .int lim, .ref ca, .int cnt, .ref la])), (ca, .inl (g.2 3, 6, .inr (.inr (.inr (.inr fc))))), (sa, .inr (7, [.ref so, .ref sv, .ref sb, .ref ss, .int wt])), (so, .inl (g.2 0, 6, .inl fo)), (tra, .inr (9, [.int tv])), (yb, .inr (ckI yk, [.int ynum, .int yar, .int ysk, .ref yr, .int ylc, .int ycr, .int yfl])), (yr, .inl (g.2 0, 10, .inl yrow))] ++ (cysW g l1 ++ cysW g l2)) H := hP
  replace hD : va_D A ([(h0, .inr (11, [.ref pl, .ref sa, .ref ea, .ref oa, .ref tsa, .ref usa, .ref vea, .ref lka, .ref ra, .ref sha, .ref tra, .int lf, .int std, .int tkd, .int tck])), (pl, .inr (4, [.int gv, .int lim, .ref ca, .int cnt, .ref la])), (ca, .inl (g.2 3, 6, .inr (.inr (.inr (.inr fc))))), (sa, .inr (7, [.ref so, .ref sv, .ref sb, .ref ss, .int wt])), (so, .inl (g.2 0, 6, .inl fo)), (tra, .inr (9, [.int tv])), (yb, .inr (ckI yk, [.int ynum, .int yar, .int ysk, .ref yr, .int ylc, .int ycr, .int yfl])), (yr, .inl (g.2 0, 10, .inl yrow))] ++ (cysW g l1 ++ cysW g l2)) := hD
  refine nx_i (v := (r_c_get 6 fo cy)) hre ?_
  refine kI (ck_elim (P := fun k9 => va_P g.1 vwCl ([(h0, .inr (11, [.ref pl, .ref sa, .ref ea, .ref oa, .ref tsa, .ref usa, .ref vea, .ref lka, .ref ra, .ref sha, .ref tra, .int lf, .int std, .int tkd, .int tck])), (pl, .inr (4, [.int gv, .int lim, .ref ca, .int cnt, .ref la])), (ca, .inl (g.2 3, 6, .inr (.inr (.inr (.inr fc))))), (sa, .inr (7, [.ref so, .ref sv, .ref sb, .ref ss, .int wt])), (so, .inl (g.2 0, 6, .inl fo)), (tra, .inr (9, [.int tv])), (yb, .inr (ckI k9, [.int ynum, .int yar, .int ysk, .ref yr, .int ylc, .int ycr, .int yfl])), (yr, .inl (g.2 0, 10, .inl yrow))] ++ (cysW g l1 ++ cysW g l2)) H → KR p l e _ s m _ below meth c _ _ _ _ 0 0 33 ls [.int (r_c_get 6 fo cy), .ref tra, .ref yb] [] g A [(yb, .inr (ckI k9, [.int ynum, .int yar, .int ysk, .ref yr, .int ylc, .int ycr, .int yfl])), (tra, .inr (9, [.int tv]))] (fun A => QI g A (fun r (_ : Unit) => r = (ckSel k9 (r_c_get 6 fo cy) ((r_c_get 6 fo cy) + 1000000) (2 * (r_c_get 6 fo cy)))) (fun u : Unit => [(yb, .inr (ckI k9, [.int ynum, .int yar, .int ysk, .ref yr, .int ylc, .int ycr, .int yfl])), (tra, .inr (9, [.int (ckSel k9 ((31 * tv) + 1) ((31 * ((31 * tv) + 2)) + 1) ((31 * ((31 * tv) + 3)) + 1))]))]))) (fun hP => (rnV (As := [.ref tra, .int (r_c_get 6 fo cy)]) (rest := []) (Cn := RX0) C (y0_toldBy l g yb yr ynum yar ysk ylc ycr yfl tra tv (r_c_get 6 fo cy)) 2 gX11_tell_X0_toldBy rfl (by decide +kernel) ⟨(Nat.le_of_ble_eq_true rfl), (Nat.le_of_ble_eq_true rfl)⟩ hP (k := 6) (ci := 0) rfl rfl rfl rfl hl.1 rfl (Nat.le_of_ble_eq_true rfl) dX11_tell_33 ⟨(Nat.le_of_ble_eq_true rfl), (Nat.le_of_ble_eq_true rfl)⟩)) (fun hP => (rnO (As := [.ref tra, .int (r_c_get 6 fo cy)]) (rest := []) (Cn := RX2) C (y2_toldBy l g yb yr ynum yar ysk ylc ycr yfl tra tv (r_c_get 6 fo cy)) 2 gX11_tell_X2_toldBy_u292X2 rfl (b0 := cX0_toldBy) (m0 := 3) (r1 := (some .int)) (by decide +kernel) (by decide +kernel) ⟨(Nat.le_of_ble_eq_true rfl), (Nat.le_of_ble_eq_true rfl)⟩ hP (k := 6) (ci := 2) rfl rfl rfl rfl hl.1 rfl (Nat.le_of_ble_eq_true rfl) dX11_tell_33 ⟨(Nat.le_of_ble_eq_true rfl), (Nat.le_of_ble_eq_true rfl)⟩)) (fun hP => (rnO (As := [.ref tra, .int (r_c_get 6 fo cy)]) (rest := []) (Cn := RX10) C (y10_toldBy l g yb yr ynum yar ysk ylc ycr yfl tra tv (r_c_get 6 fo cy)) 2 gX11_tell_X10_toldBy_u292X10 rfl (b0 := cX0_toldBy) (m0 := 3) (r1 := (some .int)) (by decide +kernel) (by decide +kernel) ⟨(Nat.le_of_ble_eq_true rfl), (Nat.le_of_ble_eq_true rfl)⟩ hP (k := 6) (ci := 10) rfl rfl rfl rfl hl.1 rfl (Nat.le_of_ble_eq_true rfl) dX11_tell_33 ⟨(Nat.le_of_ble_eq_true rfl), (Nat.le_of_ble_eq_true rfl)⟩)) yk hP) (spB (X := [(h0, .inr (11, [.ref pl, .ref sa, .ref ea, .ref oa, .ref tsa, .ref usa, .ref vea, .ref lka, .ref ra, .ref sha, .ref tra, .int lf, .int std, .int tkd, .int tck])), (pl, .inr (4, [.int gv, .int lim, .ref ca, .int cnt, .ref la])), (ca, .inl (g.2 3, 6, .inr (.inr (.inr (.inr fc))))), (sa, .inr (7, [.ref so, .ref sv, .ref sb, .ref ss, .int wt])), (so, .inl (g.2 0, 6, .inl fo)), (tra, .inr (9, [.int tv])), (yb, .inr (ckI yk, [.int ynum, .int yar, .int ysk, .ref yr, .int ylc, .int ycr, .int yfl])), (yr, .inl (g.2 0, 10, .inl yrow))]) (pl := (cysW g l1 ++ cysW g l2)) (wr := [(h0, .inr (11, [.ref pl, .ref sa, .ref ea, .ref oa, .ref tsa, .ref usa, .ref vea, .ref lka, .ref ra, .ref sha, .ref tra, .int lf, .int std, .int tkd, .int tck])), (pl, .inr (4, [.int gv, .int lim, .ref ca, .int cnt, .ref la])), (ca, .inl (g.2 3, 6, .inr (.inr (.inr (.inr fc))))), (sa, .inr (7, [.ref so, .ref sv, .ref sb, .ref ss, .int wt])), (so, .inl (g.2 0, 6, .inl fo)), (yr, .inl (g.2 0, 10, .inl yrow))]) hP hD [6, 5] [0, 1, 2, 3, 4, 7] rfl rfl rfl rfl (by decide)) hA hS (fun r7 u6 H locs hw hP hD hS => ?_)
  replace hP : va_P g.1 vwCl ([(h0, .inr (11, [.ref pl, .ref sa, .ref ea, .ref oa, .ref tsa, .ref usa, .ref vea, .ref lka, .ref ra, .ref sha, .ref tra, .int lf, .int std, .int tkd, .int tck])), (pl, .inr (4, [.int gv, .int lim, .ref ca, .int cnt, .ref la])), (ca, .inl (g.2 3, 6, .inr (.inr (.inr (.inr fc))))), (sa, .inr (7, [.ref so, .ref sv, .ref sb, .ref ss, .int wt])), (so, .inl (g.2 0, 6, .inl fo)), (yr, .inl (g.2 0, 10, .inl yrow)), (yb, .inr (ckI yk, [.int ynum, .int yar, .int ysk, .ref yr, .int ylc, .int ycr, .int yfl])), (tra, .inr (9, [.int (ckSel yk ((31 * tv) + 1) ((31 * ((31 * tv) + 2)) + 1) ((31 * ((31 * tv) + 3)) + 1))]))] ++ (cysW g l1 ++ cysW g l2)) H := hP
  replace hD : va_D A ([(h0, .inr (11, [.ref pl, .ref sa, .ref ea, .ref oa, .ref tsa, .ref usa, .ref vea, .ref lka, .ref ra, .ref sha, .ref tra, .int lf, .int std, .int tkd, .int tck])), (pl, .inr (4, [.int gv, .int lim, .ref ca, .int cnt, .ref la])), (ca, .inl (g.2 3, 6, .inr (.inr (.inr (.inr fc))))), (sa, .inr (7, [.ref so, .ref sv, .ref sb, .ref ss, .int wt])), (so, .inl (g.2 0, 6, .inl fo)), (yr, .inl (g.2 0, 10, .inl yrow)), (yb, .inr (ckI yk, [.int ynum, .int yar, .int ysk, .ref yr, .int ylc, .int ycr, .int yfl])), (tra, .inr (9, [.int (ckSel yk ((31 * tv) + 1) ((31 * ((31 * tv) + 2)) + 1) ((31 * ((31 * tv) + 3)) + 1))]))] ++ (cysW g l1 ++ cysW g l2)) := hD
  refine nx_i (v := (ckSel yk (r_c_get 6 fo cy) ((r_c_get 6 fo cy) + 1000000) (2 * (r_c_get 6 fo cy)))) hw ?_
  replace hP : va_P g.1 vwCl ([(h0, .inr (11, [.ref pl, .ref sa, .ref ea, .ref oa, .ref tsa, .ref usa, .ref vea, .ref lka, .ref ra, .ref sha, .ref tra, .int lf, .int std, .int tkd, .int tck])), (pl, .inr (4, [.int gv, .int lim, .ref ca, .int cnt, .ref la])), (ca, .inl (g.2 3, 6, .inr (.inr (.inr (.inr fc))))), (sa, .inr (7, [.ref so, .ref sv, .ref sb, .ref ss, .int wt])), (so, .inl (g.2 0, 6, .inl fo)), (tra, .inr (9, [.int (ckSel yk ((31 * tv) + 1) ((31 * ((31 * tv) + 2)) + 1) ((31 * ((31 * tv) + 3)) + 1))]))] ++ cysW g (l1 ++ (yb, yr, yk, ynum, yar, ysk, ylc, ycr, yfl, yrow) :: l2)) H := cys_joinP (X := [(h0, .inr (11, [.ref pl, .ref sa, .ref ea, .ref oa, .ref tsa, .ref usa, .ref vea, .ref lka, .ref ra, .ref sha, .ref tra, .int lf, .int std, .int tkd, .int tck])), (pl, .inr (4, [.int gv, .int lim, .ref ca, .int cnt, .ref la])), (ca, .inl (g.2 3, 6, .inr (.inr (.inr (.inr fc))))), (sa, .inr (7, [.ref so, .ref sv, .ref sb, .ref ss, .int wt])), (so, .inl (g.2 0, 6, .inl fo)), (tra, .inr (9, [.int (ckSel yk ((31 * tv) + 1) ((31 * ((31 * tv) + 2)) + 1) ((31 * ((31 * tv) + 3)) + 1))]))]) (y := (yb, yr, yk, ynum, yar, ysk, ylc, ycr, yfl, yrow)) (hP.part [0, 1, 2, 3, 4, 7, 6, 5] rfl)
  replace hD : va_D A ([(h0, .inr (11, [.ref pl, .ref sa, .ref ea, .ref oa, .ref tsa, .ref usa, .ref vea, .ref lka, .ref ra, .ref sha, .ref tra, .int lf, .int std, .int tkd, .int tck])), (pl, .inr (4, [.int gv, .int lim, .ref ca, .int cnt, .ref la])), (ca, .inl (g.2 3, 6, .inr (.inr (.inr (.inr fc))))), (sa, .inr (7, [.ref so, .ref sv, .ref sb, .ref ss, .int wt])), (so, .inl (g.2 0, 6, .inl fo)), (tra, .inr (9, [.int (ckSel yk ((31 * tv) + 1) ((31 * ((31 * tv) + 2)) + 1) ((31 * ((31 * tv) + 3)) + 1))]))] ++ cysW g (l1 ++ (yb, yr, yk, ynum, yar, ysk, ylc, ycr, yfl, yrow) :: l2)) := cys_joinD (X := [(h0, .inr (11, [.ref pl, .ref sa, .ref ea, .ref oa, .ref tsa, .ref usa, .ref vea, .ref lka, .ref ra, .ref sha, .ref tra, .int lf, .int std, .int tkd, .int tck])), (pl, .inr (4, [.int gv, .int lim, .ref ca, .int cnt, .ref la])), (ca, .inl (g.2 3, 6, .inr (.inr (.inr (.inr fc))))), (sa, .inr (7, [.ref so, .ref sv, .ref sb, .ref ss, .int wt])), (so, .inl (g.2 0, 6, .inl fo)), (tra, .inr (9, [.int (ckSel yk ((31 * tv) + 1) ((31 * ((31 * tv) + 2)) + 1) ((31 * ((31 * tv) + 3)) + 1))]))]) (y := (yb, yr, yk, ynum, yar, ysk, ylc, ycr, yfl, yrow)) (hD.part [0, 1, 2, 3, 4, 7, 6, 5] rfl rfl)
  rw [← hcse] at hP hD
  exact retI C hS (ckSel yk ((31 * tv) + 1) ((31 * ((31 * tv) + 2)) + 1) ((31 * ((31 * tv) + 3)) + 1)) ⟨(by simp only [st_r, sel_3, if_pos hcs, if_pos f3, if_neg (pa_some f3), (show fF yK cs cy.toNatClampNeg = ckNm yk from fF_cy yK hcs hcse hce)]), (by simp only [st_t, sel_3, if_pos hcs, if_pos f3, if_neg (pa_some f3), (show fF yK cs cy.toNatClampNeg = ckNm yk from fF_cy yK hcs hcse hce)])⟩ hP hD (Nat.le_of_ble_eq_true rfl) (Nat.le_of_ble_eq_true rfl) dX11_tell_36
theorem hc_X11_look_X11 : ∀ w ∈ wsX110, w ∈ wsX11_look := fun w h => List.mem_cons_of_mem _ (List.mem_append_left _ (List.mem_append_left _ (List.mem_append_left _ (List.mem_append_left _ (List.mem_append_left _ (List.mem_append_right _ h))))))
set_option maxRecDepth 100000 in
set_option maxHeartbeats 4000000 in
theorem x_look (l : Launch) (g : Gt) (h0 : Nat) (sha : Nat) (tra : Nat) (lf : Int32) (std : Int32) (tkd : Int32) (tck : Int32) (sa : Nat) (ea : Nat) (oa : Nat) (tsa : Nat) (usa : Nat) (vea : Nat) (lka : Nat) (ra : Nat) (pl : Nat) (gv : Int32) (lim : Int32) (ca : Nat) (cnt : Int32) (la : Nat) (fc : Nat → Option Nat) (tv : Int32) (cy : Int32) (cs : List Cy) (hcs : CS cs cnt fc) (hnum : NUM cs) : Ctr l g yX11_look wsX11_look ({ frames := 2, cells := 0, slots := 0, locals := 42 } : Room) [.ref h0, .int cy] ([(h0, .inr (11, [.ref pl, .ref sa, .ref ea, .ref oa, .ref tsa, .ref usa, .ref vea, .ref lka, .ref ra, .ref sha, .ref tra, .int lf, .int std, .int tkd, .int tck])), (pl, .inr (4, [.int gv, .int lim, .ref ca, .int cnt, .ref la])), (ca, .inl (g.2 3, 6, .inr (.inr (.inr (.inr fc))))), (tra, .inr (9, [.int tv]))] ++ cysW g cs) (fun A => QI g A (fun r (u : Int32) => (r = sk_r cnt (fF yK cs) cy) ∧ (u = sk_t cnt (fF yK cs) tv cy)) (fun (u : Int32) => ([(h0, .inr (11, [.ref pl, .ref sa, .ref ea, .ref oa, .ref tsa, .ref usa, .ref vea, .ref lka, .ref ra, .ref sha, .ref tra, .int lf, .int std, .int tkd, .int tck])), (pl, .inr (4, [.int gv, .int lim, .ref ca, .int cnt, .ref la])), (ca, .inl (g.2 3, 6, .inr (.inr (.inr (.inr fc))))), (tra, .inr (9, [.int u]))] ++ cysW g cs))) := by
  refine Ctr.of (cc := cX11_look) (maxL := 3) (ret := (some .int)) (by decide) rfl (Nat.le_of_ble_eq_true rfl) ?_
  intro p e s m below meth c A ls H C hP hD hA hS hl
  obtain ⟨hx, hb, hr, hts, hown, hlocks, hml, hin, hKN⟩ := id C
  have hK := hKN.1
  have hN := hKN.2
  have F : CallFix p m c cX11_look 3 s _ wsX11_look yX11_look.cls := ⟨hx, hb, hml, hown, hts⟩
  have hl : lv_has ls 3 [(0, .ref h0), (1, .int cy)] := hl
  refine lv_aload_n hx hb dX11_look_0 rfl (lv_at hl 0 rfl) ?_
  refine va_get (D := g.1) (ci := 11) (v := .ref pl) (C := RX11) (T := TX11) (N := 15) hx hb hts hc_X11_look_X11 hown hK hP 0 rfl rfl 0 (by decide) (hts (.fieldLink RX11 12 "OilPush" "plant" "LOilPush$Plant;") (by decide +kernel)) (fun _ h => h) rfl dX11_look_1 ?_
  refine lv_iload_n hx hb dX11_look_4 rfl (lv_at hl 1 rfl) ?_
  refine kQ (rnV (As := [.int cy]) (rest := []) (Cn := RX4) C (p_at l g pl gv lim ca cnt la fc cy) 1 gX11_look_X4_at rfl (by decide +kernel) ⟨(Nat.le_of_ble_eq_true rfl), (Nat.le_of_ble_eq_true rfl)⟩ hP (k := 1) (ci := 4) rfl rfl rfl rfl hl.1 rfl (Nat.le_of_ble_eq_true rfl) dX11_look_5 ⟨(Nat.le_of_ble_eq_true rfl), (Nat.le_of_ble_eq_true rfl)⟩) (spM (X := [(h0, .inr (11, [.ref pl, .ref sa, .ref ea, .ref oa, .ref tsa, .ref usa, .ref vea, .ref lka, .ref ra, .ref sha, .ref tra, .int lf, .int std, .int tkd, .int tck])), (pl, .inr (4, [.int gv, .int lim, .ref ca, .int cnt, .ref la])), (ca, .inl (g.2 3, 6, .inr (.inr (.inr (.inr fc))))), (tra, .inr (9, [.int tv]))]) (pl := cysW g cs) [false, true, true, false] hP hD rfl) hA hS (fun r1 u2 H locs hw hP hD hS => ?_)
  have f3 := hw
  replace hP : va_P g.1 vwCl ([(h0, .inr (11, [.ref pl, .ref sa, .ref ea, .ref oa, .ref tsa, .ref usa, .ref vea, .ref lka, .ref ra, .ref sha, .ref tra, .int lf, .int std, .int tkd, .int tck])), (pl, .inr (4, [.int gv, .int lim, .ref ca, .int cnt, .ref la])), (ca, .inl (g.2 3, 6, .inr (.inr (.inr (.inr fc))))), (tra, .inr (9, [.int tv]))] ++ cysW g cs) H := hP
  replace hD : va_D A ([(h0, .inr (11, [.ref pl, .ref sa, .ref ea, .ref oa, .ref tsa, .ref usa, .ref vea, .ref lka, .ref ra, .ref sha, .ref tra, .int lf, .int std, .int tkd, .int tck])), (pl, .inr (4, [.int gv, .int lim, .ref ca, .int cnt, .ref la])), (ca, .inl (g.2 3, 6, .inr (.inr (.inr (.inr fc))))), (tra, .inr (9, [.int tv]))] ++ cysW g cs) := hD
  rcases at_cases hcs f3 with ⟨hr9, hout⟩ | ⟨l1, y9, l2, hcse, hce, hr9⟩
  · subst hr9
    refine nx_v (v := .null) rfl ?_
    refine lv_astore_nN (lv' := [(2, .null), (0, .ref h0), (1, .int cy)]) hx hb dX11_look_8 rfl hl (by decide) rfl (fun ls hl => ?_)
    refine lv_aload_nN hx hb dX11_look_9 rfl (lv_at hl 0 rfl) ?_
    refine lv_ifnonnullN hx hb dX11_look_10 ?_
    refine lv_iconst (v := -1) hx hb dX11_look_13 (by decide) ?_
    refine lv_goto (tgt := 25) hx hb dX11_look_14 (by decide) ?_
    exact retI C hS tv ⟨(by simp only [sk_r, sel_r, sel_t, if_pos hcs, if_pos hnum, if_pos f3, if_pos (pa_null hcs f3)]), (by simp only [sk_t, sel_r, sel_t, if_pos hcs, if_pos hnum, if_pos f3, if_pos (pa_null hcs f3)])⟩ hP hD (Nat.le_of_ble_eq_true rfl) (Nat.le_of_ble_eq_true rfl) dX11_look_25
  subst hr9
  obtain ⟨yb, yr, yk, ynum, yar, ysk, ylc, ycr, yfl, yrow⟩ := y9
  refine nx_v (v := .ref yb) rfl ?_
  rw [hcse] at hP hD
  replace hP := cys_splitP hP
  replace hD := cys_splitD hD
  replace hP : va_P g.1 vwCl ([(h0, .inr (11, [.ref pl, .ref sa, .ref ea, .ref oa, .ref tsa, .ref usa, .ref vea, .ref lka, .ref ra, .ref sha, .ref tra, .int lf, .int std, .int tkd, .int tck])), (pl, .inr (4, [.int gv, .int lim, .ref ca, .int cnt, .ref la])), (ca, .inl (g.2 3, 6, .inr (.inr (.inr (.inr fc))))), (tra, .inr (9, [.int tv])), (yb, .inr (ckI yk, [.int ynum, .int yar, .int ysk, .ref yr, .int ylc, .int ycr, .int yfl])), (yr, .inl (g.2 0, 10, .inl yrow))] ++ (cysW g l1 ++ cysW g l2)) H := hP
  replace hD : va_D A ([(h0, .inr (11, [.ref pl, .ref sa, .ref ea, .ref oa, .ref tsa, .ref usa, .ref vea, .ref lka, .ref ra, .ref sha, .ref tra, .int lf, .int std, .int tkd, .int tck])), (pl, .inr (4, [.int gv, .int lim, .ref ca, .int cnt, .ref la])), (ca, .inl (g.2 3, 6, .inr (.inr (.inr (.inr fc))))), (tra, .inr (9, [.int tv])), (yb, .inr (ckI yk, [.int ynum, .int yar, .int ysk, .ref yr, .int ylc, .int ycr, .int yfl])), (yr, .inl (g.2 0, 10, .inl yrow))] ++ (cysW g l1 ++ cysW g l2)) := hD
  refine lv_astore_n (lv' := [(2, .ref yb), (0, .ref h0), (1, .int cy)]) hx hb dX11_look_8 rfl hl (by decide) rfl (fun ls hl => ?_)
  refine lv_aload_n hx hb dX11_look_9 rfl (lv_at hl 0 rfl) ?_
  refine lv_ifnonnull (tgt := 17) hx hb dX11_look_10 (by decide) ?_
  refine lv_aload_n hx hb dX11_look_17 rfl (lv_at hl 0 rfl) ?_
  refine lv_aload_n hx hb dX11_look_18 rfl (lv_at hl 1 rfl) ?_
  refine va_get (D := g.1) (ci := 11) (v := .ref tra) (C := RX11) (T := TX11) (N := 15) hx hb hts hc_X11_look_X11 hown hK hP 0 rfl rfl 10 (by decide) (hts (.fieldLink RX11 68 "OilPush" "trace" "LOilPush$Trace;") (by decide +kernel)) (fun _ h => h) rfl dX11_look_19 ?_
  refine kI (ck_elim (P := fun k9 => va_P g.1 vwCl ([(h0, .inr (11, [.ref pl, .ref sa, .ref ea, .ref oa, .ref tsa, .ref usa, .ref vea, .ref lka, .ref ra, .ref sha, .ref tra, .int lf, .int std, .int tkd, .int tck])), (pl, .inr (4, [.int gv, .int lim, .ref ca, .int cnt, .ref la])), (ca, .inl (g.2 3, 6, .inr (.inr (.inr (.inr fc))))), (tra, .inr (9, [.int tv])), (yb, .inr (ckI k9, [.int ynum, .int yar, .int ysk, .ref yr, .int ylc, .int ycr, .int yfl])), (yr, .inl (g.2 0, 10, .inl yrow))] ++ (cysW g l1 ++ cysW g l2)) H → KR p l e _ s m _ below meth c _ _ _ _ 0 0 22 ls [.ref tra, .ref yb] [] g A [(yb, .inr (ckI k9, [.int ynum, .int yar, .int ysk, .ref yr, .int ylc, .int ycr, .int yfl])), (tra, .inr (9, [.int tv]))] (fun A => QI g A (fun r (_ : Unit) => r = (ckSel k9 ynum ynum 88)) (fun u : Unit => [(yb, .inr (ckI k9, [.int ynum, .int yar, .int ysk, .ref yr, .int ylc, .int ycr, .int yfl])), (tra, .inr (9, [.int (ckSel k9 ((31 * tv) + 4) ((31 * tv) + 4) ((31 * tv) + 5))]))]))) (fun hP => (rnV (As := [.ref tra]) (rest := []) (Cn := RX0) C (y0_seenBy l g yb yr ynum yar ysk ylc ycr yfl tra tv) 1 gX11_look_X0_seenBy rfl (by decide +kernel) ⟨(Nat.le_of_ble_eq_true rfl), (Nat.le_of_ble_eq_true rfl)⟩ hP (k := 4) (ci := 0) rfl rfl rfl rfl hl.1 rfl (Nat.le_of_ble_eq_true rfl) dX11_look_22 ⟨(Nat.le_of_ble_eq_true rfl), (Nat.le_of_ble_eq_true rfl)⟩)) (fun hP => (rnU (As := [.ref tra]) (rest := []) (Cn := RX2) C (y2_seenBy l g yb yr ynum yar ysk ylc ycr yfl tra tv) 1 gX11_look_X0_seenBy_u296X2 rfl rfl (by decide +kernel) ⟨(Nat.le_of_ble_eq_true rfl), (Nat.le_of_ble_eq_true rfl)⟩ hP (k := 4) (ci := 2) rfl rfl rfl rfl hl.1 rfl (Nat.le_of_ble_eq_true rfl) dX11_look_22 ⟨(Nat.le_of_ble_eq_true rfl), (Nat.le_of_ble_eq_true rfl)⟩)) (fun hP => (rnO (As := [.ref tra]) (rest := []) (Cn := RX10) C (y10_seenBy l g yb yr ynum yar ysk ylc ycr yfl tra tv) 1 gX11_look_X10_seenBy_u296X10 rfl (b0 := cX0_seenBy) (m0 := 2) (r1 := (some .int)) (by decide +kernel) (by decide +kernel) ⟨(Nat.le_of_ble_eq_true rfl), (Nat.le_of_ble_eq_true rfl)⟩ hP (k := 4) (ci := 10) rfl rfl rfl rfl hl.1 rfl (Nat.le_of_ble_eq_true rfl) dX11_look_22 ⟨(Nat.le_of_ble_eq_true rfl), (Nat.le_of_ble_eq_true rfl)⟩)) yk hP) (spB (X := [(h0, .inr (11, [.ref pl, .ref sa, .ref ea, .ref oa, .ref tsa, .ref usa, .ref vea, .ref lka, .ref ra, .ref sha, .ref tra, .int lf, .int std, .int tkd, .int tck])), (pl, .inr (4, [.int gv, .int lim, .ref ca, .int cnt, .ref la])), (ca, .inl (g.2 3, 6, .inr (.inr (.inr (.inr fc))))), (tra, .inr (9, [.int tv])), (yb, .inr (ckI yk, [.int ynum, .int yar, .int ysk, .ref yr, .int ylc, .int ycr, .int yfl])), (yr, .inl (g.2 0, 10, .inl yrow))]) (pl := (cysW g l1 ++ cysW g l2)) (wr := [(h0, .inr (11, [.ref pl, .ref sa, .ref ea, .ref oa, .ref tsa, .ref usa, .ref vea, .ref lka, .ref ra, .ref sha, .ref tra, .int lf, .int std, .int tkd, .int tck])), (pl, .inr (4, [.int gv, .int lim, .ref ca, .int cnt, .ref la])), (ca, .inl (g.2 3, 6, .inr (.inr (.inr (.inr fc))))), (yr, .inl (g.2 0, 10, .inl yrow))]) hP hD [4, 3] [0, 1, 2, 5] rfl rfl rfl rfl (by decide)) hA hS (fun r5 u4 H locs hw hP hD hS => ?_)
  replace hP : va_P g.1 vwCl ([(h0, .inr (11, [.ref pl, .ref sa, .ref ea, .ref oa, .ref tsa, .ref usa, .ref vea, .ref lka, .ref ra, .ref sha, .ref tra, .int lf, .int std, .int tkd, .int tck])), (pl, .inr (4, [.int gv, .int lim, .ref ca, .int cnt, .ref la])), (ca, .inl (g.2 3, 6, .inr (.inr (.inr (.inr fc))))), (yr, .inl (g.2 0, 10, .inl yrow)), (yb, .inr (ckI yk, [.int ynum, .int yar, .int ysk, .ref yr, .int ylc, .int ycr, .int yfl])), (tra, .inr (9, [.int (ckSel yk ((31 * tv) + 4) ((31 * tv) + 4) ((31 * tv) + 5))]))] ++ (cysW g l1 ++ cysW g l2)) H := hP
  replace hD : va_D A ([(h0, .inr (11, [.ref pl, .ref sa, .ref ea, .ref oa, .ref tsa, .ref usa, .ref vea, .ref lka, .ref ra, .ref sha, .ref tra, .int lf, .int std, .int tkd, .int tck])), (pl, .inr (4, [.int gv, .int lim, .ref ca, .int cnt, .ref la])), (ca, .inl (g.2 3, 6, .inr (.inr (.inr (.inr fc))))), (yr, .inl (g.2 0, 10, .inl yrow)), (yb, .inr (ckI yk, [.int ynum, .int yar, .int ysk, .ref yr, .int ylc, .int ycr, .int yfl])), (tra, .inr (9, [.int (ckSel yk ((31 * tv) + 4) ((31 * tv) + 4) ((31 * tv) + 5))]))] ++ (cysW g l1 ++ cysW g l2)) := hD
  refine nx_i (v := (ckSel yk ynum ynum 88)) hw ?_
  replace hP : va_P g.1 vwCl ([(h0, .inr (11, [.ref pl, .ref sa, .ref ea, .ref oa, .ref tsa, .ref usa, .ref vea, .ref lka, .ref ra, .ref sha, .ref tra, .int lf, .int std, .int tkd, .int tck])), (pl, .inr (4, [.int gv, .int lim, .ref ca, .int cnt, .ref la])), (ca, .inl (g.2 3, 6, .inr (.inr (.inr (.inr fc))))), (tra, .inr (9, [.int (ckSel yk ((31 * tv) + 4) ((31 * tv) + 4) ((31 * tv) + 5))]))] ++ cysW g (l1 ++ (yb, yr, yk, ynum, yar, ysk, ylc, ycr, yfl, yrow) :: l2)) H := cys_joinP (X := [(h0, .inr (11, [.ref pl, .ref sa, .ref ea, .ref oa, .ref tsa, .ref usa, .ref vea, .ref lka, .ref ra, .ref sha, .ref tra, .int lf, .int std, .int tkd, .int tck])), (pl, .inr (4, [.int gv, .int lim, .ref ca, .int cnt, .ref la])), (ca, .inl (g.2 3, 6, .inr (.inr (.inr (.inr fc))))), (tra, .inr (9, [.int (ckSel yk ((31 * tv) + 4) ((31 * tv) + 4) ((31 * tv) + 5))]))]) (y := (yb, yr, yk, ynum, yar, ysk, ylc, ycr, yfl, yrow)) (hP.part [0, 1, 2, 5, 4, 3] rfl)
  replace hD : va_D A ([(h0, .inr (11, [.ref pl, .ref sa, .ref ea, .ref oa, .ref tsa, .ref usa, .ref vea, .ref lka, .ref ra, .ref sha, .ref tra, .int lf, .int std, .int tkd, .int tck])), (pl, .inr (4, [.int gv, .int lim, .ref ca, .int cnt, .ref la])), (ca, .inl (g.2 3, 6, .inr (.inr (.inr (.inr fc))))), (tra, .inr (9, [.int (ckSel yk ((31 * tv) + 4) ((31 * tv) + 4) ((31 * tv) + 5))]))] ++ cysW g (l1 ++ (yb, yr, yk, ynum, yar, ysk, ylc, ycr, yfl, yrow) :: l2)) := cys_joinD (X := [(h0, .inr (11, [.ref pl, .ref sa, .ref ea, .ref oa, .ref tsa, .ref usa, .ref vea, .ref lka, .ref ra, .ref sha, .ref tra, .int lf, .int std, .int tkd, .int tck])), (pl, .inr (4, [.int gv, .int lim, .ref ca, .int cnt, .ref la])), (ca, .inl (g.2 3, 6, .inr (.inr (.inr (.inr fc))))), (tra, .inr (9, [.int (ckSel yk ((31 * tv) + 4) ((31 * tv) + 4) ((31 * tv) + 5))]))]) (y := (yb, yr, yk, ynum, yar, ysk, ylc, ycr, yfl, yrow)) (hD.part [0, 1, 2, 5, 4, 3] rfl rfl)
  rw [← hcse] at hP hD
  exact retI C hS (ckSel yk ((31 * tv) + 4) ((31 * tv) + 4) ((31 * tv) + 5)) ⟨(by simp only [sk_r, sel_r, sel_t, if_pos hcs, if_pos hnum, if_pos f3, if_neg (pa_some f3), (show fF yK cs cy.toNatClampNeg = ckNm yk from fF_cy yK hcs hcse hce), (show ynum = cy from num_at hnum hcse hce)]), (by simp only [sk_t, sel_r, sel_t, if_pos hcs, if_pos hnum, if_pos f3, if_neg (pa_some f3), (show fF yK cs cy.toNatClampNeg = ckNm yk from fF_cy yK hcs hcse hce), (show ynum = cy from num_at hnum hcse hce)])⟩ hP hD (Nat.le_of_ble_eq_true rfl) (Nat.le_of_ble_eq_true rfl) dX11_look_25
theorem hc_X11_as_X11 : ∀ w ∈ wsX110, w ∈ wsX11_as := fun w h => List.mem_cons_of_mem _ (List.mem_append_left _ (List.mem_append_right _ h))
set_option maxRecDepth 100000 in
set_option maxHeartbeats 4000000 in
theorem x_as (l : Launch) (g : Gt) (h0 : Nat) (sha : Nat) (tra : Nat) (lf : Int32) (std : Int32) (tkd : Int32) (tck : Int32) (sa : Nat) (ea : Nat) (oa : Nat) (tsa : Nat) (usa : Nat) (vea : Nat) (lka : Nat) (ra : Nat) (pl : Nat) (gv : Int32) (lim : Int32) (ca : Nat) (cnt : Int32) (la : Nat) (fc : Nat → Option Nat) (cy : Int32) (kd : Int32) (cs : List Cy) (hcs : CS cs cnt fc) : Ctr l g yX11_as wsX11_as ({ frames := 1, cells := 0, slots := 0, locals := 22 } : Room) [.ref h0, .int cy, .int kd] ([(h0, .inr (11, [.ref pl, .ref sa, .ref ea, .ref oa, .ref tsa, .ref usa, .ref vea, .ref lka, .ref ra, .ref sha, .ref tra, .int lf, .int std, .int tkd, .int tck])), (pl, .inr (4, [.int gv, .int lim, .ref ca, .int cnt, .ref la])), (ca, .inl (g.2 3, 6, .inr (.inr (.inr (.inr fc)))))] ++ cysW g cs) (fun A => QI g A (fun r (u : Int32) => (r = sa_r cnt (fF yK cs) cy kd) ∧ (u = sa_l cnt (fF yK cs) cy kd)) (fun (u : Int32) => ([(h0, .inr (11, [.ref pl, .ref sa, .ref ea, .ref oa, .ref tsa, .ref usa, .ref vea, .ref lka, .ref ra, .ref sha, .ref tra, .int u, .int std, .int tkd, .int tck])), (pl, .inr (4, [.int gv, .int lim, .ref ca, .int cnt, .ref la])), (ca, .inl (g.2 3, 6, .inr (.inr (.inr (.inr fc)))))] ++ cysW g cs))) := by
  refine Ctr.of (cc := cX11_as) (maxL := 5) (ret := (some .int)) (by decide) rfl (Nat.le_of_ble_eq_true rfl) ?_
  intro p e s m below meth c A ls H C hP hD hA hS hl
  obtain ⟨hx, hb, hr, hts, hown, hlocks, hml, hin, hKN⟩ := id C
  have hK := hKN.1
  have hN := hKN.2
  have F : CallFix p m c cX11_as 5 s _ wsX11_as yX11_as.cls := ⟨hx, hb, hml, hown, hts⟩
  have hl : lv_has ls 5 [(0, .ref h0), (1, .int cy), (2, .int kd)] := hl
  refine lv_aload_n hx hb dX11_as_0 rfl (lv_at hl 0 rfl) ?_
  refine lv_iconst (v := 0) hx hb dX11_as_1 (by decide) ?_
  refine va_put (D := g.1) (ci := 11) (v := .int 0) (ty := .int) (C := RX11) (T := TX11) (N := 15) hx hb hts hc_X11_as_X11 tyX11 tyX11_ok nmX11 hown hK hP hD hS 0 rfl rfl 11 (by decide) (hts (.fieldLink RX11 110 "OilPush" "latestFault" "I") (by decide +kernel)) (fun _ h => h) rfl (by decide +kernel) rfl rfl (Nat.le_of_ble_eq_true rfl) dX11_as_2 (fun H locs hP hD hS => ?_)
  replace hP : va_P g.1 vwCl ([(h0, .inr (11, [.ref pl, .ref sa, .ref ea, .ref oa, .ref tsa, .ref usa, .ref vea, .ref lka, .ref ra, .ref sha, .ref tra, .int 0, .int std, .int tkd, .int tck])), (pl, .inr (4, [.int gv, .int lim, .ref ca, .int cnt, .ref la])), (ca, .inl (g.2 3, 6, .inr (.inr (.inr (.inr fc)))))] ++ cysW g cs) H := hP
  replace hD : va_D A ([(h0, .inr (11, [.ref pl, .ref sa, .ref ea, .ref oa, .ref tsa, .ref usa, .ref vea, .ref lka, .ref ra, .ref sha, .ref tra, .int 0, .int std, .int tkd, .int tck])), (pl, .inr (4, [.int gv, .int lim, .ref ca, .int cnt, .ref la])), (ca, .inl (g.2 3, 6, .inr (.inr (.inr (.inr fc)))))] ++ cysW g cs) := hD
  refine lv_aload_n hx hb dX11_as_5 rfl (lv_at hl 0 rfl) ?_
  refine va_get (D := g.1) (ci := 11) (v := .ref pl) (C := RX11) (T := TX11) (N := 15) hx hb hts hc_X11_as_X11 hown hK hP 0 rfl rfl 0 (by decide) (hts (.fieldLink RX11 12 "OilPush" "plant" "LOilPush$Plant;") (by decide +kernel)) (fun _ h => h) rfl dX11_as_6 ?_
  refine lv_iload_n hx hb dX11_as_9 rfl (lv_at hl 1 rfl) ?_
  refine kQ (rnV (As := [.int cy]) (rest := []) (Cn := RX4) C (p_at l g pl gv lim ca cnt la fc cy) 1 gX11_as_X4_at rfl (by decide +kernel) ⟨(Nat.le_of_ble_eq_true rfl), (Nat.le_of_ble_eq_true rfl)⟩ hP (k := 1) (ci := 4) rfl rfl rfl rfl hl.1 rfl (Nat.le_of_ble_eq_true rfl) dX11_as_10 ⟨(Nat.le_of_ble_eq_true rfl), (Nat.le_of_ble_eq_true rfl)⟩) (spM (X := [(h0, .inr (11, [.ref pl, .ref sa, .ref ea, .ref oa, .ref tsa, .ref usa, .ref vea, .ref lka, .ref ra, .ref sha, .ref tra, .int 0, .int std, .int tkd, .int tck])), (pl, .inr (4, [.int gv, .int lim, .ref ca, .int cnt, .ref la])), (ca, .inl (g.2 3, 6, .inr (.inr (.inr (.inr fc)))))]) (pl := cysW g cs) [false, true, true] hP hD rfl) hA hS (fun r1 u2 H locs hw hP hD hS => ?_)
  have f3 := hw
  replace hP : va_P g.1 vwCl ([(h0, .inr (11, [.ref pl, .ref sa, .ref ea, .ref oa, .ref tsa, .ref usa, .ref vea, .ref lka, .ref ra, .ref sha, .ref tra, .int 0, .int std, .int tkd, .int tck])), (pl, .inr (4, [.int gv, .int lim, .ref ca, .int cnt, .ref la])), (ca, .inl (g.2 3, 6, .inr (.inr (.inr (.inr fc)))))] ++ cysW g cs) H := hP
  replace hD : va_D A ([(h0, .inr (11, [.ref pl, .ref sa, .ref ea, .ref oa, .ref tsa, .ref usa, .ref vea, .ref lka, .ref ra, .ref sha, .ref tra, .int 0, .int std, .int tkd, .int tck])), (pl, .inr (4, [.int gv, .int lim, .ref ca, .int cnt, .ref la])), (ca, .inl (g.2 3, 6, .inr (.inr (.inr (.inr fc)))))] ++ cysW g cs) := hD
  rcases at_cases hcs f3 with ⟨hr9, hout⟩ | ⟨l1, y9, l2, hcse, hce, hr9⟩
  · subst hr9
    refine nx_v (v := .null) rfl ?_
    refine lv_astore_nN (lv' := [(3, .null), (0, .ref h0), (1, .int cy), (2, .int kd)]) hx hb dX11_as_13 rfl hl (by decide) rfl (fun ls hl => ?_)
    refine lv_aload_nN hx hb dX11_as_14 rfl (lv_at hl 0 rfl) ?_
    refine lv_ifnonnullN hx hb dX11_as_15 ?_
    refine lv_iconst (v := -1) hx hb dX11_as_18 (by decide) ?_
    exact retI C hS 0 ⟨(by simp only [sa_r, ten_2, if_pos hcs, if_pos f3, if_pos (pa_null hcs f3)]), (by simp only [sa_l, ten_2, if_pos hcs, if_pos f3, if_pos (pa_null hcs f3)])⟩ hP hD (Nat.le_of_ble_eq_true rfl) (Nat.le_of_ble_eq_true rfl) dX11_as_19
  subst hr9
  obtain ⟨yb, yr, yk, ynum, yar, ysk, ylc, ycr, yfl, yrow⟩ := y9
  refine nx_v (v := .ref yb) rfl ?_
  rw [hcse] at hP hD
  replace hP := cys_splitP hP
  replace hD := cys_splitD hD
  replace hP : va_P g.1 vwCl ([(h0, .inr (11, [.ref pl, .ref sa, .ref ea, .ref oa, .ref tsa, .ref usa, .ref vea, .ref lka, .ref ra, .ref sha, .ref tra, .int 0, .int std, .int tkd, .int tck])), (pl, .inr (4, [.int gv, .int lim, .ref ca, .int cnt, .ref la])), (ca, .inl (g.2 3, 6, .inr (.inr (.inr (.inr fc))))), (yb, .inr (ckI yk, [.int ynum, .int yar, .int ysk, .ref yr, .int ylc, .int ycr, .int yfl])), (yr, .inl (g.2 0, 10, .inl yrow))] ++ (cysW g l1 ++ cysW g l2)) H := hP
  replace hD : va_D A ([(h0, .inr (11, [.ref pl, .ref sa, .ref ea, .ref oa, .ref tsa, .ref usa, .ref vea, .ref lka, .ref ra, .ref sha, .ref tra, .int 0, .int std, .int tkd, .int tck])), (pl, .inr (4, [.int gv, .int lim, .ref ca, .int cnt, .ref la])), (ca, .inl (g.2 3, 6, .inr (.inr (.inr (.inr fc))))), (yb, .inr (ckI yk, [.int ynum, .int yar, .int ysk, .ref yr, .int ylc, .int ycr, .int yfl])), (yr, .inl (g.2 0, 10, .inl yrow))] ++ (cysW g l1 ++ cysW g l2)) := hD
  refine lv_astore_n (lv' := [(3, .ref yb), (0, .ref h0), (1, .int cy), (2, .int kd)]) hx hb dX11_as_13 rfl hl (by decide) rfl (fun ls hl => ?_)
  refine lv_aload_n hx hb dX11_as_14 rfl (lv_at hl 0 rfl) ?_
  refine lv_ifnonnull (tgt := 20) hx hb dX11_as_15 (by decide) ?_
  refine lv_iload_n hx hb dX11_as_20 rfl (lv_at hl 3 rfl) ?_
  refine lv_iconst (v := 0) hx hb dX11_as_21 (by decide) ?_
  refine lv_iconst (v := 2) hx hb dX11_as_22 (by decide) ?_
  refine pureIS (As := [.int kd, .int 0, .int 2]) (rest := []) F (c_within l kd 0 2) 3 gX11_as_X11_within rfl (by decide +kernel) rfl rfl ⟨(Nat.le_of_ble_eq_true rfl), (Nat.le_of_ble_eq_true rfl)⟩ (Nat.le_of_ble_eq_true rfl) (Nat.le_of_ble_eq_true rfl) rfl hl.1 rfl (Nat.le_of_ble_eq_true rfl) dX11_as_23 ?_
  refine lv_if_ne (tgt := 32) hx hb dX11_as_26 (by decide) (fun c4 => ?_) (fun c4 => ?_)
  · refine lv_iload_n hx hb dX11_as_32 rfl (lv_at hl 3 rfl) ?_
    refine lv_if_eq (tgt := 58) hx hb dX11_as_33 (by decide) (fun c5 => ?_) (fun c5 => ?_)
    · refine lv_iconst (v := 1) hx hb dX11_as_58 (by decide) ?_
      refine lv_goto (tgt := 63) hx hb dX11_as_59 (by decide) ?_
      refine lv_istore (lv' := [(4, .int 1), (3, .ref yb), (0, .ref h0), (1, .int cy), (2, .int kd)]) hx hb dX11_as_63 hl (by decide) rfl (fun ls hl => ?_)
      refine lv_iload hx hb dX11_as_65 (lv_at hl 0 rfl) ?_
      refine lv_if_eq (tgt := 74) hx hb dX11_as_67 (by decide) (fun cc0 => absurd cc0 (by decide)) (fun _ => ?_)
      refine lv_iconst (v := 1) hx hb dX11_as_70 (by decide) ?_
      refine lv_goto (tgt := 79) hx hb dX11_as_71 (by decide) ?_
      replace hP : va_P g.1 vwCl ([(h0, .inr (11, [.ref pl, .ref sa, .ref ea, .ref oa, .ref tsa, .ref usa, .ref vea, .ref lka, .ref ra, .ref sha, .ref tra, .int 0, .int std, .int tkd, .int tck])), (pl, .inr (4, [.int gv, .int lim, .ref ca, .int cnt, .ref la])), (ca, .inl (g.2 3, 6, .inr (.inr (.inr (.inr fc)))))] ++ cysW g (l1 ++ (yb, yr, yk, ynum, yar, ysk, ylc, ycr, yfl, yrow) :: l2)) H := cys_joinP (X := [(h0, .inr (11, [.ref pl, .ref sa, .ref ea, .ref oa, .ref tsa, .ref usa, .ref vea, .ref lka, .ref ra, .ref sha, .ref tra, .int 0, .int std, .int tkd, .int tck])), (pl, .inr (4, [.int gv, .int lim, .ref ca, .int cnt, .ref la])), (ca, .inl (g.2 3, 6, .inr (.inr (.inr (.inr fc)))))]) (y := (yb, yr, yk, ynum, yar, ysk, ylc, ycr, yfl, yrow)) (hP.part [0, 1, 2, 3, 4] rfl)
      replace hD : va_D A ([(h0, .inr (11, [.ref pl, .ref sa, .ref ea, .ref oa, .ref tsa, .ref usa, .ref vea, .ref lka, .ref ra, .ref sha, .ref tra, .int 0, .int std, .int tkd, .int tck])), (pl, .inr (4, [.int gv, .int lim, .ref ca, .int cnt, .ref la])), (ca, .inl (g.2 3, 6, .inr (.inr (.inr (.inr fc)))))] ++ cysW g (l1 ++ (yb, yr, yk, ynum, yar, ysk, ylc, ycr, yfl, yrow) :: l2)) := cys_joinD (X := [(h0, .inr (11, [.ref pl, .ref sa, .ref ea, .ref oa, .ref tsa, .ref usa, .ref vea, .ref lka, .ref ra, .ref sha, .ref tra, .int 0, .int std, .int tkd, .int tck])), (pl, .inr (4, [.int gv, .int lim, .ref ca, .int cnt, .ref la])), (ca, .inl (g.2 3, 6, .inr (.inr (.inr (.inr fc)))))]) (y := (yb, yr, yk, ynum, yar, ysk, ylc, ycr, yfl, yrow)) (hD.part [0, 1, 2, 3, 4] rfl rfl)
      rw [← hcse] at hP hD
      exact retI C hS 0 ⟨(by simp only [sa_r, ten_2, if_pos hcs, if_pos f3, if_neg (pa_some f3), if_neg c4, if_pos c5, (show fF yK cs cy.toNatClampNeg = ckNm yk from fF_cy yK hcs hcse hce), if_neg (show ¬ ckNm yk < kd from by rw [c5]; exact as_0 yk)]), (by simp only [sa_l, ten_2, if_pos hcs, if_pos f3, if_neg (pa_some f3), if_neg c4, if_pos c5, (show fF yK cs cy.toNatClampNeg = ckNm yk from fF_cy yK hcs hcse hce), if_neg (show ¬ ckNm yk < kd from by rw [c5]; exact as_0 yk)])⟩ hP hD (Nat.le_of_ble_eq_true rfl) (Nat.le_of_ble_eq_true rfl) dX11_as_79
    refine lv_iload_n hx hb dX11_as_36 rfl (lv_at hl 3 rfl) ?_
    refine lv_iconst (v := 1) hx hb dX11_as_37 (by decide) ?_
    refine lv_icmp_ne (tgt := 51) hx hb dX11_as_38 (by decide) (fun c6 => ?_) (fun c6 => ?_)
    · refine lv_aload_n hx hb dX11_as_51 rfl (lv_at hl 0 rfl) ?_
      refine stepJ (pc' := 55) (v := .int (ckT yk)) (rest := []) (ck_elim (P := fun k9 => va_P g.1 vwCl ([(h0, .inr (11, [.ref pl, .ref sa, .ref ea, .ref oa, .ref tsa, .ref usa, .ref vea, .ref lka, .ref ra, .ref sha, .ref tra, .int 0, .int std, .int tkd, .int tck])), (pl, .inr (4, [.int gv, .int lim, .ref ca, .int cnt, .ref la])), (ca, .inl (g.2 3, 6, .inr (.inr (.inr (.inr fc))))), (yb, .inr (ckI k9, [.int ynum, .int yar, .int ysk, .ref yr, .int ylc, .int ycr, .int yfl])), (yr, .inl (g.2 0, 10, .inl yrow))] ++ (cysW g l1 ++ cysW g l2)) H → W p l e _ s m _ below meth c _ _ _ _ _ (F0 m 55 ls [.int (ckT k9)]) → W p l e _ s m _ below meth c _ _ _ _ _ (F0 m 52 ls [.ref yb])) (fun hP kk => va_instNo (C := "OilPush$Cylinder") hx hb hown (hts (.classLink RX11 302 "OilPush$Twin") (by decide +kernel)) hN.2.2.2.2.2.2.2.1 (va_recv hK hP (ci := 0) rfl (q0 := 3) rfl) dX11_as_52 kk) (fun hP kk => va_instNo (C := "OilPush$Held") hx hb hown (hts (.classLink RX11 302 "OilPush$Twin") (by decide +kernel)) hN.2.2.2.2.2.2.2.2.1 (va_recv hK hP (ci := 2) rfl (q0 := 3) rfl) dX11_as_52 kk) (fun hP kk => va_instS hx hb hown (hts (.classLink RX11 302 "OilPush$Twin") (by decide +kernel)) (hK.1 10 _ rfl).2 (va_recv hK hP (ci := 10) rfl (q0 := 3) rfl) dX11_as_52 kk) yk hP) ?_
      refine lv_if_eq (tgt := 62) hx hb dX11_as_55 (by decide) (fun c7 => ?_) (fun c7 => ?_)
      · refine lv_iconst (v := 0) hx hb dX11_as_62 (by decide) ?_
        refine lv_istore (lv' := [(4, .int 0), (3, .ref yb), (0, .ref h0), (1, .int cy), (2, .int kd)]) hx hb dX11_as_63 hl (by decide) rfl (fun ls hl => ?_)
        refine lv_iload hx hb dX11_as_65 (lv_at hl 0 rfl) ?_
        refine lv_if_eq (tgt := 74) hx hb dX11_as_67 (by decide) (fun _ => ?_) (fun cc0 => absurd cc0 (by decide))
        refine lv_aload_n hx hb dX11_as_74 rfl (lv_at hl 2 rfl) ?_
        refine lv_iconst (v := 2) hx hb dX11_as_75 (by decide) ?_
        refine kI (rnV (As := [.int 2]) (rest := []) (Cn := RX11) C (x_faulted l g h0 sha tra 0 std tkd tck sa ea oa tsa usa vea lka ra pl 2) 1 gX11_as_X11_faulted rfl (by decide +kernel) ⟨(Nat.le_of_ble_eq_true rfl), (Nat.le_of_ble_eq_true rfl)⟩ hP (k := 0) (ci := 11) rfl rfl rfl rfl hl.1 rfl (Nat.le_of_ble_eq_true rfl) dX11_as_76 ⟨(Nat.le_of_ble_eq_true rfl), (Nat.le_of_ble_eq_true rfl)⟩) (spM (X := [(h0, .inr (11, [.ref pl, .ref sa, .ref ea, .ref oa, .ref tsa, .ref usa, .ref vea, .ref lka, .ref ra, .ref sha, .ref tra, .int 0, .int std, .int tkd, .int tck])), (pl, .inr (4, [.int gv, .int lim, .ref ca, .int cnt, .ref la])), (ca, .inl (g.2 3, 6, .inr (.inr (.inr (.inr fc))))), (yb, .inr (ckI yk, [.int ynum, .int yar, .int ysk, .ref yr, .int ylc, .int ycr, .int yfl])), (yr, .inl (g.2 0, 10, .inl yrow))]) (pl := (cysW g l1 ++ cysW g l2)) [true, false, false, false, false] hP hD rfl) hA hS (fun r8 u9 H locs hw hP hD hS => ?_)
        have hre := hw
        replace hP : va_P g.1 vwCl ([(h0, .inr (11, [.ref pl, .ref sa, .ref ea, .ref oa, .ref tsa, .ref usa, .ref vea, .ref lka, .ref ra, .ref sha, .ref tra, .int 2, .int std, .int tkd, .int tck])), (pl, .inr (4, [.int gv, .int lim, .ref ca, .int cnt, .ref la])), (ca, .inl (g.2 3, 6, .inr (.inr (.inr (.inr fc))))), (yb, .inr (ckI yk, [.int ynum, .int yar, .int ysk, .ref yr, .int ylc, .int ycr, .int yfl])), (yr, .inl (g.2 0, 10, .inl yrow))] ++ (cysW g l1 ++ cysW g l2)) H := hP
        replace hD : va_D A ([(h0, .inr (11, [.ref pl, .ref sa, .ref ea, .ref oa, .ref tsa, .ref usa, .ref vea, .ref lka, .ref ra, .ref sha, .ref tra, .int 2, .int std, .int tkd, .int tck])), (pl, .inr (4, [.int gv, .int lim, .ref ca, .int cnt, .ref la])), (ca, .inl (g.2 3, 6, .inr (.inr (.inr (.inr fc))))), (yb, .inr (ckI yk, [.int ynum, .int yar, .int ysk, .ref yr, .int ylc, .int ycr, .int yfl])), (yr, .inl (g.2 0, 10, .inl yrow))] ++ (cysW g l1 ++ cysW g l2)) := hD
        refine nx_i (v := ((-10) - 2)) hre ?_
        replace hP : va_P g.1 vwCl ([(h0, .inr (11, [.ref pl, .ref sa, .ref ea, .ref oa, .ref tsa, .ref usa, .ref vea, .ref lka, .ref ra, .ref sha, .ref tra, .int 2, .int std, .int tkd, .int tck])), (pl, .inr (4, [.int gv, .int lim, .ref ca, .int cnt, .ref la])), (ca, .inl (g.2 3, 6, .inr (.inr (.inr (.inr fc)))))] ++ cysW g (l1 ++ (yb, yr, yk, ynum, yar, ysk, ylc, ycr, yfl, yrow) :: l2)) H := cys_joinP (X := [(h0, .inr (11, [.ref pl, .ref sa, .ref ea, .ref oa, .ref tsa, .ref usa, .ref vea, .ref lka, .ref ra, .ref sha, .ref tra, .int 2, .int std, .int tkd, .int tck])), (pl, .inr (4, [.int gv, .int lim, .ref ca, .int cnt, .ref la])), (ca, .inl (g.2 3, 6, .inr (.inr (.inr (.inr fc)))))]) (y := (yb, yr, yk, ynum, yar, ysk, ylc, ycr, yfl, yrow)) (hP.part [0, 1, 2, 3, 4] rfl)
        replace hD : va_D A ([(h0, .inr (11, [.ref pl, .ref sa, .ref ea, .ref oa, .ref tsa, .ref usa, .ref vea, .ref lka, .ref ra, .ref sha, .ref tra, .int 2, .int std, .int tkd, .int tck])), (pl, .inr (4, [.int gv, .int lim, .ref ca, .int cnt, .ref la])), (ca, .inl (g.2 3, 6, .inr (.inr (.inr (.inr fc)))))] ++ cysW g (l1 ++ (yb, yr, yk, ynum, yar, ysk, ylc, ycr, yfl, yrow) :: l2)) := cys_joinD (X := [(h0, .inr (11, [.ref pl, .ref sa, .ref ea, .ref oa, .ref tsa, .ref usa, .ref vea, .ref lka, .ref ra, .ref sha, .ref tra, .int 2, .int std, .int tkd, .int tck])), (pl, .inr (4, [.int gv, .int lim, .ref ca, .int cnt, .ref la])), (ca, .inl (g.2 3, 6, .inr (.inr (.inr (.inr fc)))))]) (y := (yb, yr, yk, ynum, yar, ysk, ylc, ycr, yfl, yrow)) (hD.part [0, 1, 2, 3, 4] rfl rfl)
        rw [← hcse] at hP hD
        exact retI C hS 2 ⟨(by simp only [sa_r, ten_2, if_pos hcs, if_pos f3, if_neg (pa_some f3), if_neg c4, if_neg c5, if_neg c6, if_pos c7, (show fF yK cs cy.toNatClampNeg = ckNm yk from fF_cy yK hcs hcse hce), if_pos (show ckNm yk < kd from by rw [kd_012 c4 c5 c6]; exact as_2n c7)]), (by simp only [sa_l, ten_2, if_pos hcs, if_pos f3, if_neg (pa_some f3), if_neg c4, if_neg c5, if_neg c6, if_pos c7, (show fF yK cs cy.toNatClampNeg = ckNm yk from fF_cy yK hcs hcse hce), if_pos (show ckNm yk < kd from by rw [kd_012 c4 c5 c6]; exact as_2n c7)])⟩ hP hD (Nat.le_of_ble_eq_true rfl) (Nat.le_of_ble_eq_true rfl) dX11_as_79
      refine lv_iconst (v := 1) hx hb dX11_as_58 (by decide) ?_
      refine lv_goto (tgt := 63) hx hb dX11_as_59 (by decide) ?_
      refine lv_istore (lv' := [(4, .int 1), (3, .ref yb), (0, .ref h0), (1, .int cy), (2, .int kd)]) hx hb dX11_as_63 hl (by decide) rfl (fun ls hl => ?_)
      refine lv_iload hx hb dX11_as_65 (lv_at hl 0 rfl) ?_
      refine lv_if_eq (tgt := 74) hx hb dX11_as_67 (by decide) (fun cc0 => absurd cc0 (by decide)) (fun _ => ?_)
      refine lv_iconst (v := 1) hx hb dX11_as_70 (by decide) ?_
      refine lv_goto (tgt := 79) hx hb dX11_as_71 (by decide) ?_
      replace hP : va_P g.1 vwCl ([(h0, .inr (11, [.ref pl, .ref sa, .ref ea, .ref oa, .ref tsa, .ref usa, .ref vea, .ref lka, .ref ra, .ref sha, .ref tra, .int 0, .int std, .int tkd, .int tck])), (pl, .inr (4, [.int gv, .int lim, .ref ca, .int cnt, .ref la])), (ca, .inl (g.2 3, 6, .inr (.inr (.inr (.inr fc)))))] ++ cysW g (l1 ++ (yb, yr, yk, ynum, yar, ysk, ylc, ycr, yfl, yrow) :: l2)) H := cys_joinP (X := [(h0, .inr (11, [.ref pl, .ref sa, .ref ea, .ref oa, .ref tsa, .ref usa, .ref vea, .ref lka, .ref ra, .ref sha, .ref tra, .int 0, .int std, .int tkd, .int tck])), (pl, .inr (4, [.int gv, .int lim, .ref ca, .int cnt, .ref la])), (ca, .inl (g.2 3, 6, .inr (.inr (.inr (.inr fc)))))]) (y := (yb, yr, yk, ynum, yar, ysk, ylc, ycr, yfl, yrow)) (hP.part [0, 1, 2, 3, 4] rfl)
      replace hD : va_D A ([(h0, .inr (11, [.ref pl, .ref sa, .ref ea, .ref oa, .ref tsa, .ref usa, .ref vea, .ref lka, .ref ra, .ref sha, .ref tra, .int 0, .int std, .int tkd, .int tck])), (pl, .inr (4, [.int gv, .int lim, .ref ca, .int cnt, .ref la])), (ca, .inl (g.2 3, 6, .inr (.inr (.inr (.inr fc)))))] ++ cysW g (l1 ++ (yb, yr, yk, ynum, yar, ysk, ylc, ycr, yfl, yrow) :: l2)) := cys_joinD (X := [(h0, .inr (11, [.ref pl, .ref sa, .ref ea, .ref oa, .ref tsa, .ref usa, .ref vea, .ref lka, .ref ra, .ref sha, .ref tra, .int 0, .int std, .int tkd, .int tck])), (pl, .inr (4, [.int gv, .int lim, .ref ca, .int cnt, .ref la])), (ca, .inl (g.2 3, 6, .inr (.inr (.inr (.inr fc)))))]) (y := (yb, yr, yk, ynum, yar, ysk, ylc, ycr, yfl, yrow)) (hD.part [0, 1, 2, 3, 4] rfl rfl)
      rw [← hcse] at hP hD
      exact retI C hS 0 ⟨(by simp only [sa_r, ten_2, if_pos hcs, if_pos f3, if_neg (pa_some f3), if_neg c4, if_neg c5, if_neg c6, if_neg c7, (show fF yK cs cy.toNatClampNeg = ckNm yk from fF_cy yK hcs hcse hce), if_neg (show ¬ ckNm yk < kd from by rw [kd_012 c4 c5 c6]; exact as_2y c7)]), (by simp only [sa_l, ten_2, if_pos hcs, if_pos f3, if_neg (pa_some f3), if_neg c4, if_neg c5, if_neg c6, if_neg c7, (show fF yK cs cy.toNatClampNeg = ckNm yk from fF_cy yK hcs hcse hce), if_neg (show ¬ ckNm yk < kd from by rw [kd_012 c4 c5 c6]; exact as_2y c7)])⟩ hP hD (Nat.le_of_ble_eq_true rfl) (Nat.le_of_ble_eq_true rfl) dX11_as_79
    refine lv_aload_n hx hb dX11_as_41 rfl (lv_at hl 0 rfl) ?_
    refine stepJ (pc' := 45) (v := .int (ckH yk)) (rest := []) (ck_elim (P := fun k9 => va_P g.1 vwCl ([(h0, .inr (11, [.ref pl, .ref sa, .ref ea, .ref oa, .ref tsa, .ref usa, .ref vea, .ref lka, .ref ra, .ref sha, .ref tra, .int 0, .int std, .int tkd, .int tck])), (pl, .inr (4, [.int gv, .int lim, .ref ca, .int cnt, .ref la])), (ca, .inl (g.2 3, 6, .inr (.inr (.inr (.inr fc))))), (yb, .inr (ckI k9, [.int ynum, .int yar, .int ysk, .ref yr, .int ylc, .int ycr, .int yfl])), (yr, .inl (g.2 0, 10, .inl yrow))] ++ (cysW g l1 ++ cysW g l2)) H → W p l e _ s m _ below meth c _ _ _ _ _ (F0 m 45 ls [.int (ckH k9)]) → W p l e _ s m _ below meth c _ _ _ _ _ (F0 m 42 ls [.ref yb])) (fun hP kk => va_instNo (C := "OilPush$Cylinder") hx hb hown (hts (.classLink RX11 300 "OilPush$Held") (by decide +kernel)) hN.2.2.2.2.2.2.1 (va_recv hK hP (ci := 0) rfl (q0 := 3) rfl) dX11_as_42 kk) (fun hP kk => va_instS hx hb hown (hts (.classLink RX11 300 "OilPush$Held") (by decide +kernel)) (hK.1 2 _ rfl).2 (va_recv hK hP (ci := 2) rfl (q0 := 3) rfl) dX11_as_42 kk) (fun hP kk => va_instY (C := "OilPush$Twin") hx hb hown (hts (.classLink RX11 300 "OilPush$Held") (by decide +kernel)) hN.2.2.2.2.2.1 (va_recv hK hP (ci := 10) rfl (q0 := 3) rfl) dX11_as_42 kk) yk hP) ?_
    refine lv_if_eq (tgt := 62) hx hb dX11_as_45 (by decide) (fun c10 => ?_) (fun c10 => ?_)
    · refine lv_iconst (v := 0) hx hb dX11_as_62 (by decide) ?_
      refine lv_istore (lv' := [(4, .int 0), (3, .ref yb), (0, .ref h0), (1, .int cy), (2, .int kd)]) hx hb dX11_as_63 hl (by decide) rfl (fun ls hl => ?_)
      refine lv_iload hx hb dX11_as_65 (lv_at hl 0 rfl) ?_
      refine lv_if_eq (tgt := 74) hx hb dX11_as_67 (by decide) (fun _ => ?_) (fun cc0 => absurd cc0 (by decide))
      refine lv_aload_n hx hb dX11_as_74 rfl (lv_at hl 2 rfl) ?_
      refine lv_iconst (v := 2) hx hb dX11_as_75 (by decide) ?_
      refine kI (rnV (As := [.int 2]) (rest := []) (Cn := RX11) C (x_faulted l g h0 sha tra 0 std tkd tck sa ea oa tsa usa vea lka ra pl 2) 1 gX11_as_X11_faulted rfl (by decide +kernel) ⟨(Nat.le_of_ble_eq_true rfl), (Nat.le_of_ble_eq_true rfl)⟩ hP (k := 0) (ci := 11) rfl rfl rfl rfl hl.1 rfl (Nat.le_of_ble_eq_true rfl) dX11_as_76 ⟨(Nat.le_of_ble_eq_true rfl), (Nat.le_of_ble_eq_true rfl)⟩) (spM (X := [(h0, .inr (11, [.ref pl, .ref sa, .ref ea, .ref oa, .ref tsa, .ref usa, .ref vea, .ref lka, .ref ra, .ref sha, .ref tra, .int 0, .int std, .int tkd, .int tck])), (pl, .inr (4, [.int gv, .int lim, .ref ca, .int cnt, .ref la])), (ca, .inl (g.2 3, 6, .inr (.inr (.inr (.inr fc))))), (yb, .inr (ckI yk, [.int ynum, .int yar, .int ysk, .ref yr, .int ylc, .int ycr, .int yfl])), (yr, .inl (g.2 0, 10, .inl yrow))]) (pl := (cysW g l1 ++ cysW g l2)) [true, false, false, false, false] hP hD rfl) hA hS (fun r11 u12 H locs hw hP hD hS => ?_)
      have hre := hw
      replace hP : va_P g.1 vwCl ([(h0, .inr (11, [.ref pl, .ref sa, .ref ea, .ref oa, .ref tsa, .ref usa, .ref vea, .ref lka, .ref ra, .ref sha, .ref tra, .int 2, .int std, .int tkd, .int tck])), (pl, .inr (4, [.int gv, .int lim, .ref ca, .int cnt, .ref la])), (ca, .inl (g.2 3, 6, .inr (.inr (.inr (.inr fc))))), (yb, .inr (ckI yk, [.int ynum, .int yar, .int ysk, .ref yr, .int ylc, .int ycr, .int yfl])), (yr, .inl (g.2 0, 10, .inl yrow))] ++ (cysW g l1 ++ cysW g l2)) H := hP
      replace hD : va_D A ([(h0, .inr (11, [.ref pl, .ref sa, .ref ea, .ref oa, .ref tsa, .ref usa, .ref vea, .ref lka, .ref ra, .ref sha, .ref tra, .int 2, .int std, .int tkd, .int tck])), (pl, .inr (4, [.int gv, .int lim, .ref ca, .int cnt, .ref la])), (ca, .inl (g.2 3, 6, .inr (.inr (.inr (.inr fc))))), (yb, .inr (ckI yk, [.int ynum, .int yar, .int ysk, .ref yr, .int ylc, .int ycr, .int yfl])), (yr, .inl (g.2 0, 10, .inl yrow))] ++ (cysW g l1 ++ cysW g l2)) := hD
      refine nx_i (v := ((-10) - 2)) hre ?_
      replace hP : va_P g.1 vwCl ([(h0, .inr (11, [.ref pl, .ref sa, .ref ea, .ref oa, .ref tsa, .ref usa, .ref vea, .ref lka, .ref ra, .ref sha, .ref tra, .int 2, .int std, .int tkd, .int tck])), (pl, .inr (4, [.int gv, .int lim, .ref ca, .int cnt, .ref la])), (ca, .inl (g.2 3, 6, .inr (.inr (.inr (.inr fc)))))] ++ cysW g (l1 ++ (yb, yr, yk, ynum, yar, ysk, ylc, ycr, yfl, yrow) :: l2)) H := cys_joinP (X := [(h0, .inr (11, [.ref pl, .ref sa, .ref ea, .ref oa, .ref tsa, .ref usa, .ref vea, .ref lka, .ref ra, .ref sha, .ref tra, .int 2, .int std, .int tkd, .int tck])), (pl, .inr (4, [.int gv, .int lim, .ref ca, .int cnt, .ref la])), (ca, .inl (g.2 3, 6, .inr (.inr (.inr (.inr fc)))))]) (y := (yb, yr, yk, ynum, yar, ysk, ylc, ycr, yfl, yrow)) (hP.part [0, 1, 2, 3, 4] rfl)
      replace hD : va_D A ([(h0, .inr (11, [.ref pl, .ref sa, .ref ea, .ref oa, .ref tsa, .ref usa, .ref vea, .ref lka, .ref ra, .ref sha, .ref tra, .int 2, .int std, .int tkd, .int tck])), (pl, .inr (4, [.int gv, .int lim, .ref ca, .int cnt, .ref la])), (ca, .inl (g.2 3, 6, .inr (.inr (.inr (.inr fc)))))] ++ cysW g (l1 ++ (yb, yr, yk, ynum, yar, ysk, ylc, ycr, yfl, yrow) :: l2)) := cys_joinD (X := [(h0, .inr (11, [.ref pl, .ref sa, .ref ea, .ref oa, .ref tsa, .ref usa, .ref vea, .ref lka, .ref ra, .ref sha, .ref tra, .int 2, .int std, .int tkd, .int tck])), (pl, .inr (4, [.int gv, .int lim, .ref ca, .int cnt, .ref la])), (ca, .inl (g.2 3, 6, .inr (.inr (.inr (.inr fc)))))]) (y := (yb, yr, yk, ynum, yar, ysk, ylc, ycr, yfl, yrow)) (hD.part [0, 1, 2, 3, 4] rfl rfl)
      rw [← hcse] at hP hD
      exact retI C hS 2 ⟨(by simp only [sa_r, ten_2, if_pos hcs, if_pos f3, if_neg (pa_some f3), if_neg c4, if_neg c5, if_pos c6, if_pos c10, (show fF yK cs cy.toNatClampNeg = ckNm yk from fF_cy yK hcs hcse hce), if_pos (show ckNm yk < kd from by rw [c6]; exact as_1n c10)]), (by simp only [sa_l, ten_2, if_pos hcs, if_pos f3, if_neg (pa_some f3), if_neg c4, if_neg c5, if_pos c6, if_pos c10, (show fF yK cs cy.toNatClampNeg = ckNm yk from fF_cy yK hcs hcse hce), if_pos (show ckNm yk < kd from by rw [c6]; exact as_1n c10)])⟩ hP hD (Nat.le_of_ble_eq_true rfl) (Nat.le_of_ble_eq_true rfl) dX11_as_79
    refine lv_goto (tgt := 58) hx hb dX11_as_48 (by decide) ?_
    refine lv_iconst (v := 1) hx hb dX11_as_58 (by decide) ?_
    refine lv_goto (tgt := 63) hx hb dX11_as_59 (by decide) ?_
    refine lv_istore (lv' := [(4, .int 1), (3, .ref yb), (0, .ref h0), (1, .int cy), (2, .int kd)]) hx hb dX11_as_63 hl (by decide) rfl (fun ls hl => ?_)
    refine lv_iload hx hb dX11_as_65 (lv_at hl 0 rfl) ?_
    refine lv_if_eq (tgt := 74) hx hb dX11_as_67 (by decide) (fun cc0 => absurd cc0 (by decide)) (fun _ => ?_)
    refine lv_iconst (v := 1) hx hb dX11_as_70 (by decide) ?_
    refine lv_goto (tgt := 79) hx hb dX11_as_71 (by decide) ?_
    replace hP : va_P g.1 vwCl ([(h0, .inr (11, [.ref pl, .ref sa, .ref ea, .ref oa, .ref tsa, .ref usa, .ref vea, .ref lka, .ref ra, .ref sha, .ref tra, .int 0, .int std, .int tkd, .int tck])), (pl, .inr (4, [.int gv, .int lim, .ref ca, .int cnt, .ref la])), (ca, .inl (g.2 3, 6, .inr (.inr (.inr (.inr fc)))))] ++ cysW g (l1 ++ (yb, yr, yk, ynum, yar, ysk, ylc, ycr, yfl, yrow) :: l2)) H := cys_joinP (X := [(h0, .inr (11, [.ref pl, .ref sa, .ref ea, .ref oa, .ref tsa, .ref usa, .ref vea, .ref lka, .ref ra, .ref sha, .ref tra, .int 0, .int std, .int tkd, .int tck])), (pl, .inr (4, [.int gv, .int lim, .ref ca, .int cnt, .ref la])), (ca, .inl (g.2 3, 6, .inr (.inr (.inr (.inr fc)))))]) (y := (yb, yr, yk, ynum, yar, ysk, ylc, ycr, yfl, yrow)) (hP.part [0, 1, 2, 3, 4] rfl)
    replace hD : va_D A ([(h0, .inr (11, [.ref pl, .ref sa, .ref ea, .ref oa, .ref tsa, .ref usa, .ref vea, .ref lka, .ref ra, .ref sha, .ref tra, .int 0, .int std, .int tkd, .int tck])), (pl, .inr (4, [.int gv, .int lim, .ref ca, .int cnt, .ref la])), (ca, .inl (g.2 3, 6, .inr (.inr (.inr (.inr fc)))))] ++ cysW g (l1 ++ (yb, yr, yk, ynum, yar, ysk, ylc, ycr, yfl, yrow) :: l2)) := cys_joinD (X := [(h0, .inr (11, [.ref pl, .ref sa, .ref ea, .ref oa, .ref tsa, .ref usa, .ref vea, .ref lka, .ref ra, .ref sha, .ref tra, .int 0, .int std, .int tkd, .int tck])), (pl, .inr (4, [.int gv, .int lim, .ref ca, .int cnt, .ref la])), (ca, .inl (g.2 3, 6, .inr (.inr (.inr (.inr fc)))))]) (y := (yb, yr, yk, ynum, yar, ysk, ylc, ycr, yfl, yrow)) (hD.part [0, 1, 2, 3, 4] rfl rfl)
    rw [← hcse] at hP hD
    exact retI C hS 0 ⟨(by simp only [sa_r, ten_2, if_pos hcs, if_pos f3, if_neg (pa_some f3), if_neg c4, if_neg c5, if_pos c6, if_neg c10, (show fF yK cs cy.toNatClampNeg = ckNm yk from fF_cy yK hcs hcse hce), if_neg (show ¬ ckNm yk < kd from by rw [c6]; exact as_1y c10)]), (by simp only [sa_l, ten_2, if_pos hcs, if_pos f3, if_neg (pa_some f3), if_neg c4, if_neg c5, if_pos c6, if_neg c10, (show fF yK cs cy.toNatClampNeg = ckNm yk from fF_cy yK hcs hcse hce), if_neg (show ¬ ckNm yk < kd from by rw [c6]; exact as_1y c10)])⟩ hP hD (Nat.le_of_ble_eq_true rfl) (Nat.le_of_ble_eq_true rfl) dX11_as_79
  refine lv_bipush (v := -2) hx hb dX11_as_29 (by decide) ?_
  replace hP : va_P g.1 vwCl ([(h0, .inr (11, [.ref pl, .ref sa, .ref ea, .ref oa, .ref tsa, .ref usa, .ref vea, .ref lka, .ref ra, .ref sha, .ref tra, .int 0, .int std, .int tkd, .int tck])), (pl, .inr (4, [.int gv, .int lim, .ref ca, .int cnt, .ref la])), (ca, .inl (g.2 3, 6, .inr (.inr (.inr (.inr fc)))))] ++ cysW g (l1 ++ (yb, yr, yk, ynum, yar, ysk, ylc, ycr, yfl, yrow) :: l2)) H := cys_joinP (X := [(h0, .inr (11, [.ref pl, .ref sa, .ref ea, .ref oa, .ref tsa, .ref usa, .ref vea, .ref lka, .ref ra, .ref sha, .ref tra, .int 0, .int std, .int tkd, .int tck])), (pl, .inr (4, [.int gv, .int lim, .ref ca, .int cnt, .ref la])), (ca, .inl (g.2 3, 6, .inr (.inr (.inr (.inr fc)))))]) (y := (yb, yr, yk, ynum, yar, ysk, ylc, ycr, yfl, yrow)) (hP.part [0, 1, 2, 3, 4] rfl)
  replace hD : va_D A ([(h0, .inr (11, [.ref pl, .ref sa, .ref ea, .ref oa, .ref tsa, .ref usa, .ref vea, .ref lka, .ref ra, .ref sha, .ref tra, .int 0, .int std, .int tkd, .int tck])), (pl, .inr (4, [.int gv, .int lim, .ref ca, .int cnt, .ref la])), (ca, .inl (g.2 3, 6, .inr (.inr (.inr (.inr fc)))))] ++ cysW g (l1 ++ (yb, yr, yk, ynum, yar, ysk, ylc, ycr, yfl, yrow) :: l2)) := cys_joinD (X := [(h0, .inr (11, [.ref pl, .ref sa, .ref ea, .ref oa, .ref tsa, .ref usa, .ref vea, .ref lka, .ref ra, .ref sha, .ref tra, .int 0, .int std, .int tkd, .int tck])), (pl, .inr (4, [.int gv, .int lim, .ref ca, .int cnt, .ref la])), (ca, .inl (g.2 3, 6, .inr (.inr (.inr (.inr fc)))))]) (y := (yb, yr, yk, ynum, yar, ysk, ylc, ycr, yfl, yrow)) (hD.part [0, 1, 2, 3, 4] rfl rfl)
  rw [← hcse] at hP hD
  exact retI C hS 0 ⟨(by simp only [sa_r, ten_2, if_pos hcs, if_pos f3, if_neg (pa_some f3), if_pos c4, (show fF yK cs cy.toNatClampNeg = ckNm yk from fF_cy yK hcs hcse hce)]), (by simp only [sa_l, ten_2, if_pos hcs, if_pos f3, if_neg (pa_some f3), if_pos c4, (show fF yK cs cy.toNatClampNeg = ckNm yk from fF_cy yK hcs hcse hce)])⟩ hP hD (Nat.le_of_ble_eq_true rfl) (Nat.le_of_ble_eq_true rfl) dX11_as_31
theorem hc_X11_about_X0 : ∀ w ∈ wsX00, w ∈ wsX11_about := fun w h => List.mem_cons_of_mem _ (List.mem_append_left _ (List.mem_append_left _ (List.mem_append_left _ (List.mem_append_left _ (List.mem_append_left _ (List.mem_append_right _ h))))))
theorem hc_X11_about_X1 : ∀ w ∈ wsX10, w ∈ wsX11_about := fun w h => List.mem_cons_of_mem _ (List.mem_append_left _ (List.mem_append_right _ h))
theorem hc_X11_about_X10 : ∀ w ∈ wsX100, w ∈ wsX11_about := fun w h => List.mem_cons_of_mem _ (List.mem_append_left _ (List.mem_append_left _ (List.mem_append_left _ (List.mem_append_right _ h))))
theorem hc_X11_about_X11 : ∀ w ∈ wsX110, w ∈ wsX11_about := fun w h => List.mem_cons_of_mem _ (List.mem_append_left _ (List.mem_append_left _ (List.mem_append_left _ (List.mem_append_left _ (List.mem_append_left _ (List.mem_append_left _ (List.mem_append_right _ h)))))))
theorem hc_X11_about_X2 : ∀ w ∈ wsX20, w ∈ wsX11_about := fun w h => List.mem_cons_of_mem _ (List.mem_append_left _ (List.mem_append_left _ (List.mem_append_left _ (List.mem_append_left _ (List.mem_append_right _ h)))))
theorem hc_X11_about_X7 : ∀ w ∈ wsX70, w ∈ wsX11_about := fun w h => List.mem_cons_of_mem _ (List.mem_append_left _ (List.mem_append_left _ (List.mem_append_right _ h)))
theorem hc_X11_rule_X11 : ∀ w ∈ wsX110, w ∈ wsX11_rule := fun w h => List.mem_cons_of_mem _ (List.mem_append_left _ (List.mem_append_left _ (List.mem_append_left _ (List.mem_append_left _ (List.mem_append_right _ h)))))
theorem hc_X11_rule_X4 : ∀ w ∈ wsX40, w ∈ wsX11_rule := fun w h => List.mem_cons_of_mem _ (List.mem_append_left _ (List.mem_append_left _ (List.mem_append_left _ (List.mem_append_right _ h))))
set_option maxRecDepth 100000 in
set_option maxHeartbeats 4000000 in
theorem x_rule (l : Launch) (g : Gt) (h0 : Nat) (sha : Nat) (tra : Nat) (lf : Int32) (std : Int32) (tkd : Int32) (tck : Int32) (sa : Nat) (ea : Nat) (oa : Nat) (tsa : Nat) (usa : Nat) (vea : Nat) (lka : Nat) (ra : Nat) (pl : Nat) (gv : Int32) (lim : Int32) (ca : Nat) (cnt : Int32) (la : Nat) (fc : Nat → Option Nat) (fla : Nat → Int32) (cy : Int32) (what : Int32) (v : Int32) (cs : List Cy) (hcs : CS cs cnt fc) : Ctr l g yX11_rule wsX11_rule ({ frames := 2, cells := 0, slots := 0, locals := 45 } : Room) [.ref h0, .int cy, .int what, .int v] ([(h0, .inr (11, [.ref pl, .ref sa, .ref ea, .ref oa, .ref tsa, .ref usa, .ref vea, .ref lka, .ref ra, .ref sha, .ref tra, .int lf, .int std, .int tkd, .int tck])), (pl, .inr (4, [.int gv, .int lim, .ref ca, .int cnt, .ref la])), (ca, .inl (g.2 3, 6, .inr (.inr (.inr (.inr fc))))), (la, .inl (g.2 0, 6, .inl fla))] ++ cysW g cs) (fun A => QI g A (fun r (u : (Nat → Int32) × List Cy) => (CS u.2 cnt fc) ∧ (SAMES cs u.2) ∧ (r = ru_r cnt (fF yC cs) (fF yF cs) fla cy what v) ∧ (u.1 = ru_k cnt fla cy what v) ∧ (fF yC u.2 = ru_c cnt (fF yC cs) cy what v) ∧ (fF yF u.2 = ru_f cnt (fF yF cs) cy what v) ∧ (fF yL u.2 = fF yL cs) ∧ (fR u.2 = fR cs)) (fun (u : (Nat → Int32) × List Cy) => ([(h0, .inr (11, [.ref pl, .ref sa, .ref ea, .ref oa, .ref tsa, .ref usa, .ref vea, .ref lka, .ref ra, .ref sha, .ref tra, .int lf, .int std, .int tkd, .int tck])), (pl, .inr (4, [.int gv, .int lim, .ref ca, .int cnt, .ref la])), (ca, .inl (g.2 3, 6, .inr (.inr (.inr (.inr fc))))), (la, .inl (g.2 0, 6, .inl u.1))] ++ cysW g u.2))) := by
  refine Ctr.of (cc := cX11_rule) (maxL := 5) (ret := (some .int)) (by decide) rfl (Nat.le_of_ble_eq_true rfl) ?_
  intro p e s m below meth c A ls H C hP hD hA hS hl
  obtain ⟨hx, hb, hr, hts, hown, hlocks, hml, hin, hKN⟩ := id C
  have hK := hKN.1
  have hN := hKN.2
  have F : CallFix p m c cX11_rule 5 s _ wsX11_rule yX11_rule.cls := ⟨hx, hb, hml, hown, hts⟩
  have hl : lv_has ls 5 [(0, .ref h0), (1, .int cy), (2, .int what), (3, .int v)] := hl
  refine lv_aload_n hx hb dX11_rule_0 rfl (lv_at hl 0 rfl) ?_
  refine va_get (D := g.1) (ci := 11) (v := .ref pl) (C := RX11) (T := TX11) (N := 15) hx hb hts hc_X11_rule_X11 hown hK hP 0 rfl rfl 0 (by decide) (hts (.fieldLink RX11 12 "OilPush" "plant" "LOilPush$Plant;") (by decide +kernel)) (fun _ h => h) rfl dX11_rule_1 ?_
  refine lv_iload_n hx hb dX11_rule_4 rfl (lv_at hl 1 rfl) ?_
  refine kQ (rnV (As := [.int cy]) (rest := []) (Cn := RX4) C (p_at l g pl gv lim ca cnt la fc cy) 1 gX11_rule_X4_at rfl (by decide +kernel) ⟨(Nat.le_of_ble_eq_true rfl), (Nat.le_of_ble_eq_true rfl)⟩ hP (k := 1) (ci := 4) rfl rfl rfl rfl hl.1 rfl (Nat.le_of_ble_eq_true rfl) dX11_rule_5 ⟨(Nat.le_of_ble_eq_true rfl), (Nat.le_of_ble_eq_true rfl)⟩) (spM (X := [(h0, .inr (11, [.ref pl, .ref sa, .ref ea, .ref oa, .ref tsa, .ref usa, .ref vea, .ref lka, .ref ra, .ref sha, .ref tra, .int lf, .int std, .int tkd, .int tck])), (pl, .inr (4, [.int gv, .int lim, .ref ca, .int cnt, .ref la])), (ca, .inl (g.2 3, 6, .inr (.inr (.inr (.inr fc))))), (la, .inl (g.2 0, 6, .inl fla))]) (pl := cysW g cs) [false, true, true, false] hP hD rfl) hA hS (fun r1 u2 H locs hw hP hD hS => ?_)
  have f3 := hw
  replace hP : va_P g.1 vwCl ([(h0, .inr (11, [.ref pl, .ref sa, .ref ea, .ref oa, .ref tsa, .ref usa, .ref vea, .ref lka, .ref ra, .ref sha, .ref tra, .int lf, .int std, .int tkd, .int tck])), (pl, .inr (4, [.int gv, .int lim, .ref ca, .int cnt, .ref la])), (ca, .inl (g.2 3, 6, .inr (.inr (.inr (.inr fc))))), (la, .inl (g.2 0, 6, .inl fla))] ++ cysW g cs) H := hP
  replace hD : va_D A ([(h0, .inr (11, [.ref pl, .ref sa, .ref ea, .ref oa, .ref tsa, .ref usa, .ref vea, .ref lka, .ref ra, .ref sha, .ref tra, .int lf, .int std, .int tkd, .int tck])), (pl, .inr (4, [.int gv, .int lim, .ref ca, .int cnt, .ref la])), (ca, .inl (g.2 3, 6, .inr (.inr (.inr (.inr fc))))), (la, .inl (g.2 0, 6, .inl fla))] ++ cysW g cs) := hD
  rcases at_cases hcs f3 with ⟨hr9, hout⟩ | ⟨l1, y9, l2, hcse, hce, hr9⟩
  · subst hr9
    refine nx_v (v := .null) rfl ?_
    refine lv_astoreN (lv' := [(4, .null), (0, .ref h0), (1, .int cy), (2, .int what), (3, .int v)]) hx hb dX11_rule_8 hl (by decide) rfl (fun ls hl => ?_)
    refine lv_aloadN hx hb dX11_rule_10 (lv_at hl 0 rfl) ?_
    refine lv_ifnullN (tgt := 24) hx hb dX11_rule_12 (by decide) ?_
    refine lv_iconst (v := -1) hx hb dX11_rule_24 (by decide) ?_
    exact retI C hS (fla, cs) ⟨hcs, sames_rfl, (by simp only [ru_r, if_pos hcs, if_pos f3, if_pos (pa_null hcs f3)]), (by simp only [ru_k, if_pos hcs, if_pos f3, if_pos (pa_null hcs f3)]), (by simp only [ru_c, if_pos hcs, if_pos f3, if_pos (pa_null hcs f3)]), (by simp only [ru_f, if_pos hcs, if_pos f3, if_pos (pa_null hcs f3)]), rfl, rfl⟩ hP hD (Nat.le_of_ble_eq_true rfl) (Nat.le_of_ble_eq_true rfl) dX11_rule_25
  subst hr9
  obtain ⟨yb, yr, yk, ynum, yar, ysk, ylc, ycr, yfl, yrow⟩ := y9
  refine nx_v (v := .ref yb) rfl ?_
  rw [hcse] at hP hD
  replace hP := cys_splitP hP
  replace hD := cys_splitD hD
  replace hP : va_P g.1 vwCl ([(h0, .inr (11, [.ref pl, .ref sa, .ref ea, .ref oa, .ref tsa, .ref usa, .ref vea, .ref lka, .ref ra, .ref sha, .ref tra, .int lf, .int std, .int tkd, .int tck])), (pl, .inr (4, [.int gv, .int lim, .ref ca, .int cnt, .ref la])), (ca, .inl (g.2 3, 6, .inr (.inr (.inr (.inr fc))))), (la, .inl (g.2 0, 6, .inl fla)), (yb, .inr (ckI yk, [.int ynum, .int yar, .int ysk, .ref yr, .int ylc, .int ycr, .int yfl])), (yr, .inl (g.2 0, 10, .inl yrow))] ++ (cysW g l1 ++ cysW g l2)) H := hP
  replace hD : va_D A ([(h0, .inr (11, [.ref pl, .ref sa, .ref ea, .ref oa, .ref tsa, .ref usa, .ref vea, .ref lka, .ref ra, .ref sha, .ref tra, .int lf, .int std, .int tkd, .int tck])), (pl, .inr (4, [.int gv, .int lim, .ref ca, .int cnt, .ref la])), (ca, .inl (g.2 3, 6, .inr (.inr (.inr (.inr fc))))), (la, .inl (g.2 0, 6, .inl fla)), (yb, .inr (ckI yk, [.int ynum, .int yar, .int ysk, .ref yr, .int ylc, .int ycr, .int yfl])), (yr, .inl (g.2 0, 10, .inl yrow))] ++ (cysW g l1 ++ cysW g l2)) := hD
  refine lv_astore (lv' := [(4, .ref yb), (0, .ref h0), (1, .int cy), (2, .int what), (3, .int v)]) hx hb dX11_rule_8 hl (by decide) rfl (fun ls hl => ?_)
  refine lv_aload hx hb dX11_rule_10 (lv_at hl 0 rfl) ?_
  refine lv_ifnull hx hb dX11_rule_12 ?_
  refine lv_iload_n hx hb dX11_rule_15 rfl (lv_at hl 3 rfl) ?_
  refine lv_iconst (v := 0) hx hb dX11_rule_16 (by decide) ?_
  refine lv_iconst (v := 2) hx hb dX11_rule_17 (by decide) ?_
  refine pureIS (As := [.int what, .int 0, .int 2]) (rest := []) F (c_within l what 0 2) 3 gX11_rule_X11_within rfl (by decide +kernel) rfl rfl ⟨(Nat.le_of_ble_eq_true rfl), (Nat.le_of_ble_eq_true rfl)⟩ (Nat.le_of_ble_eq_true rfl) (Nat.le_of_ble_eq_true rfl) rfl hl.1 rfl (Nat.le_of_ble_eq_true rfl) dX11_rule_18 ?_
  refine lv_if_ne (tgt := 26) hx hb dX11_rule_21 (by decide) (fun c4 => ?_) (fun c4 => ?_)
  · refine lv_iload_n hx hb dX11_rule_26 rfl (lv_at hl 3 rfl) ?_
    by_cases w5 : what = 0
    · refine lv_lookup (tgt := 52) (off := 25) hx hb dX11_rule_27 (by decide) (by rw [w5]; decide) (by decide) ?_
      refine lv_iload_n hx hb dX11_rule_52 rfl (lv_at hl 4 rfl) ?_
      refine lv_iconst (v := 0) hx hb dX11_rule_53 (by decide) ?_
      refine lv_sipush (v := 500) hx hb dX11_rule_54 (by decide) ?_
      refine pureIS (As := [.int v, .int 0, .int 500]) (rest := []) F (c_within l v 0 500) 3 gX11_rule_X11_within rfl (by decide +kernel) rfl rfl ⟨(Nat.le_of_ble_eq_true rfl), (Nat.le_of_ble_eq_true rfl)⟩ (Nat.le_of_ble_eq_true rfl) (Nat.le_of_ble_eq_true rfl) rfl hl.1 rfl (Nat.le_of_ble_eq_true rfl) dX11_rule_57 ?_
      refine lv_if_eq (tgt := 72) hx hb dX11_rule_60 (by decide) (fun c6 => ?_) (fun c6 => ?_)
      · refine lv_bipush (v := -2) hx hb dX11_rule_72 (by decide) ?_
        replace hP : va_P g.1 vwCl ([(h0, .inr (11, [.ref pl, .ref sa, .ref ea, .ref oa, .ref tsa, .ref usa, .ref vea, .ref lka, .ref ra, .ref sha, .ref tra, .int lf, .int std, .int tkd, .int tck])), (pl, .inr (4, [.int gv, .int lim, .ref ca, .int cnt, .ref la])), (ca, .inl (g.2 3, 6, .inr (.inr (.inr (.inr fc))))), (la, .inl (g.2 0, 6, .inl fla))] ++ cysW g (l1 ++ (yb, yr, yk, ynum, yar, ysk, ylc, ycr, yfl, yrow) :: l2)) H := cys_joinP (X := [(h0, .inr (11, [.ref pl, .ref sa, .ref ea, .ref oa, .ref tsa, .ref usa, .ref vea, .ref lka, .ref ra, .ref sha, .ref tra, .int lf, .int std, .int tkd, .int tck])), (pl, .inr (4, [.int gv, .int lim, .ref ca, .int cnt, .ref la])), (ca, .inl (g.2 3, 6, .inr (.inr (.inr (.inr fc))))), (la, .inl (g.2 0, 6, .inl fla))]) (y := (yb, yr, yk, ynum, yar, ysk, ylc, ycr, yfl, yrow)) (hP.part [0, 1, 2, 3, 4, 5] rfl)
        replace hD : va_D A ([(h0, .inr (11, [.ref pl, .ref sa, .ref ea, .ref oa, .ref tsa, .ref usa, .ref vea, .ref lka, .ref ra, .ref sha, .ref tra, .int lf, .int std, .int tkd, .int tck])), (pl, .inr (4, [.int gv, .int lim, .ref ca, .int cnt, .ref la])), (ca, .inl (g.2 3, 6, .inr (.inr (.inr (.inr fc))))), (la, .inl (g.2 0, 6, .inl fla))] ++ cysW g (l1 ++ (yb, yr, yk, ynum, yar, ysk, ylc, ycr, yfl, yrow) :: l2)) := cys_joinD (X := [(h0, .inr (11, [.ref pl, .ref sa, .ref ea, .ref oa, .ref tsa, .ref usa, .ref vea, .ref lka, .ref ra, .ref sha, .ref tra, .int lf, .int std, .int tkd, .int tck])), (pl, .inr (4, [.int gv, .int lim, .ref ca, .int cnt, .ref la])), (ca, .inl (g.2 3, 6, .inr (.inr (.inr (.inr fc))))), (la, .inl (g.2 0, 6, .inl fla))]) (y := (yb, yr, yk, ynum, yar, ysk, ylc, ycr, yfl, yrow)) (hD.part [0, 1, 2, 3, 4, 5] rfl rfl)
        rw [← hcse] at hP hD
        exact retI C hS (fla, cs) ⟨hcs, sames_rfl, (by simp only [ru_r, if_pos hcs, if_pos f3, if_neg (pa_some f3), if_neg c4, if_pos w5, if_pos c6, (show fF yC cs cy.toNatClampNeg = ycr from fF_cy yC hcs hcse hce), (show fF yF cs cy.toNatClampNeg = yfl from fF_cy yF hcs hcse hce)]), (by simp only [ru_k, if_pos hcs, if_pos f3, if_neg (pa_some f3), if_neg c4, if_pos w5, if_pos c6, (show fF yC cs cy.toNatClampNeg = ycr from fF_cy yC hcs hcse hce), (show fF yF cs cy.toNatClampNeg = yfl from fF_cy yF hcs hcse hce)]), (by simp only [ru_c, if_pos hcs, if_pos f3, if_neg (pa_some f3), if_neg c4, if_pos w5, if_pos c6, (show fF yC cs cy.toNatClampNeg = ycr from fF_cy yC hcs hcse hce), (show fF yF cs cy.toNatClampNeg = yfl from fF_cy yF hcs hcse hce)]), (by simp only [ru_f, if_pos hcs, if_pos f3, if_neg (pa_some f3), if_neg c4, if_pos w5, if_pos c6, (show fF yC cs cy.toNatClampNeg = ycr from fF_cy yC hcs hcse hce), (show fF yF cs cy.toNatClampNeg = yfl from fF_cy yF hcs hcse hce)]), rfl, rfl⟩ hP hD (Nat.le_of_ble_eq_true rfl) (Nat.le_of_ble_eq_true rfl) dX11_rule_74
      refine lv_aload hx hb dX11_rule_63 (lv_at hl 0 rfl) ?_
      refine lv_iload_n hx hb dX11_rule_65 rfl (lv_at hl 4 rfl) ?_
      refine kI (ck_elim (P := fun k9 => va_P g.1 vwCl ([(h0, .inr (11, [.ref pl, .ref sa, .ref ea, .ref oa, .ref tsa, .ref usa, .ref vea, .ref lka, .ref ra, .ref sha, .ref tra, .int lf, .int std, .int tkd, .int tck])), (pl, .inr (4, [.int gv, .int lim, .ref ca, .int cnt, .ref la])), (ca, .inl (g.2 3, 6, .inr (.inr (.inr (.inr fc))))), (la, .inl (g.2 0, 6, .inl fla)), (yb, .inr (ckI k9, [.int ynum, .int yar, .int ysk, .ref yr, .int ylc, .int ycr, .int yfl])), (yr, .inl (g.2 0, 10, .inl yrow))] ++ (cysW g l1 ++ cysW g l2)) H → KR p l e _ s m _ below meth c _ _ _ _ 0 0 66 ls [.int v, .ref yb] [] g A [(yb, .inr (ckI k9, [.int ynum, .int yar, .int ysk, .ref yr, .int ylc, .int ycr, .int yfl]))] (fun A => QI g A (fun r (_ : Unit) => r = ycr) (fun u : Unit => [(yb, .inr (ckI k9, [.int ynum, .int yar, .int ysk, .ref yr, .int ylc, .int v, .int yfl]))]))) (fun hP => (rnV (As := [.int v]) (rest := []) (Cn := RX0) C (y0_newCrack l g yb yr ynum yar ysk ylc ycr yfl v) 1 gX11_rule_X0_newCrack rfl (by decide +kernel) ⟨(Nat.le_of_ble_eq_true rfl), (Nat.le_of_ble_eq_true rfl)⟩ hP (k := 4) (ci := 0) rfl rfl rfl rfl hl.1 rfl (Nat.le_of_ble_eq_true rfl) dX11_rule_66 ⟨(Nat.le_of_ble_eq_true rfl), (Nat.le_of_ble_eq_true rfl)⟩)) (fun hP => (rnU (As := [.int v]) (rest := []) (Cn := RX2) C (y2_newCrack l g yb yr ynum yar ysk ylc ycr yfl v) 1 gX11_rule_X0_newCrack_u94X2 rfl rfl (by decide +kernel) ⟨(Nat.le_of_ble_eq_true rfl), (Nat.le_of_ble_eq_true rfl)⟩ hP (k := 4) (ci := 2) rfl rfl rfl rfl hl.1 rfl (Nat.le_of_ble_eq_true rfl) dX11_rule_66 ⟨(Nat.le_of_ble_eq_true rfl), (Nat.le_of_ble_eq_true rfl)⟩)) (fun hP => (rnU (As := [.int v]) (rest := []) (Cn := RX10) C (y10_newCrack l g yb yr ynum yar ysk ylc ycr yfl v) 1 gX11_rule_X0_newCrack_u94X10 rfl rfl (by decide +kernel) ⟨(Nat.le_of_ble_eq_true rfl), (Nat.le_of_ble_eq_true rfl)⟩ hP (k := 4) (ci := 10) rfl rfl rfl rfl hl.1 rfl (Nat.le_of_ble_eq_true rfl) dX11_rule_66 ⟨(Nat.le_of_ble_eq_true rfl), (Nat.le_of_ble_eq_true rfl)⟩)) yk hP) (spM (X := [(h0, .inr (11, [.ref pl, .ref sa, .ref ea, .ref oa, .ref tsa, .ref usa, .ref vea, .ref lka, .ref ra, .ref sha, .ref tra, .int lf, .int std, .int tkd, .int tck])), (pl, .inr (4, [.int gv, .int lim, .ref ca, .int cnt, .ref la])), (ca, .inl (g.2 3, 6, .inr (.inr (.inr (.inr fc))))), (la, .inl (g.2 0, 6, .inl fla)), (yb, .inr (ckI yk, [.int ynum, .int yar, .int ysk, .ref yr, .int ylc, .int ycr, .int yfl])), (yr, .inl (g.2 0, 10, .inl yrow))]) (pl := (cysW g l1 ++ cysW g l2)) [false, false, false, false, true, false] hP hD rfl) hA hS (fun r8 u7 H locs hw hP hD hS => ?_)
      replace hP : va_P g.1 vwCl ([(h0, .inr (11, [.ref pl, .ref sa, .ref ea, .ref oa, .ref tsa, .ref usa, .ref vea, .ref lka, .ref ra, .ref sha, .ref tra, .int lf, .int std, .int tkd, .int tck])), (pl, .inr (4, [.int gv, .int lim, .ref ca, .int cnt, .ref la])), (ca, .inl (g.2 3, 6, .inr (.inr (.inr (.inr fc))))), (la, .inl (g.2 0, 6, .inl fla)), (yb, .inr (ckI yk, [.int ynum, .int yar, .int ysk, .ref yr, .int ylc, .int v, .int yfl])), (yr, .inl (g.2 0, 10, .inl yrow))] ++ (cysW g l1 ++ cysW g l2)) H := hP
      replace hD : va_D A ([(h0, .inr (11, [.ref pl, .ref sa, .ref ea, .ref oa, .ref tsa, .ref usa, .ref vea, .ref lka, .ref ra, .ref sha, .ref tra, .int lf, .int std, .int tkd, .int tck])), (pl, .inr (4, [.int gv, .int lim, .ref ca, .int cnt, .ref la])), (ca, .inl (g.2 3, 6, .inr (.inr (.inr (.inr fc))))), (la, .inl (g.2 0, 6, .inl fla)), (yb, .inr (ckI yk, [.int ynum, .int yar, .int ysk, .ref yr, .int ylc, .int v, .int yfl])), (yr, .inl (g.2 0, 10, .inl yrow))] ++ (cysW g l1 ++ cysW g l2)) := hD
      refine nx_i (v := ycr) hw ?_
      refine lv_goto (tgt := 74) hx hb dX11_rule_69 (by decide) ?_
      replace hP : va_P g.1 vwCl ([(h0, .inr (11, [.ref pl, .ref sa, .ref ea, .ref oa, .ref tsa, .ref usa, .ref vea, .ref lka, .ref ra, .ref sha, .ref tra, .int lf, .int std, .int tkd, .int tck])), (pl, .inr (4, [.int gv, .int lim, .ref ca, .int cnt, .ref la])), (ca, .inl (g.2 3, 6, .inr (.inr (.inr (.inr fc))))), (la, .inl (g.2 0, 6, .inl fla))] ++ cysW g (l1 ++ (yb, yr, yk, ynum, yar, ysk, ylc, v, yfl, yrow) :: l2)) H := cys_joinP (X := [(h0, .inr (11, [.ref pl, .ref sa, .ref ea, .ref oa, .ref tsa, .ref usa, .ref vea, .ref lka, .ref ra, .ref sha, .ref tra, .int lf, .int std, .int tkd, .int tck])), (pl, .inr (4, [.int gv, .int lim, .ref ca, .int cnt, .ref la])), (ca, .inl (g.2 3, 6, .inr (.inr (.inr (.inr fc))))), (la, .inl (g.2 0, 6, .inl fla))]) (y := (yb, yr, yk, ynum, yar, ysk, ylc, v, yfl, yrow)) (hP.part [0, 1, 2, 3, 4, 5] rfl)
      replace hD : va_D A ([(h0, .inr (11, [.ref pl, .ref sa, .ref ea, .ref oa, .ref tsa, .ref usa, .ref vea, .ref lka, .ref ra, .ref sha, .ref tra, .int lf, .int std, .int tkd, .int tck])), (pl, .inr (4, [.int gv, .int lim, .ref ca, .int cnt, .ref la])), (ca, .inl (g.2 3, 6, .inr (.inr (.inr (.inr fc))))), (la, .inl (g.2 0, 6, .inl fla))] ++ cysW g (l1 ++ (yb, yr, yk, ynum, yar, ysk, ylc, v, yfl, yrow) :: l2)) := cys_joinD (X := [(h0, .inr (11, [.ref pl, .ref sa, .ref ea, .ref oa, .ref tsa, .ref usa, .ref vea, .ref lka, .ref ra, .ref sha, .ref tra, .int lf, .int std, .int tkd, .int tck])), (pl, .inr (4, [.int gv, .int lim, .ref ca, .int cnt, .ref la])), (ca, .inl (g.2 3, 6, .inr (.inr (.inr (.inr fc))))), (la, .inl (g.2 0, 6, .inl fla))]) (y := (yb, yr, yk, ynum, yar, ysk, ylc, v, yfl, yrow)) (hD.part [0, 1, 2, 3, 4, 5] rfl rfl)
      exact retI C hS (fla, (l1 ++ (yb, yr, yk, ynum, yar, ysk, ylc, v, yfl, yrow) :: l2)) ⟨(CS_same hcs hcse rfl), (sames_set hcse rfl rfl rfl rfl), (by simp only [ru_r, if_pos hcs, if_pos f3, if_neg (pa_some f3), if_neg c4, if_pos w5, if_neg c6, (show fF yC cs cy.toNatClampNeg = ycr from fF_cy yC hcs hcse hce), (show fF yF cs cy.toNatClampNeg = yfl from fF_cy yF hcs hcse hce), (show fF yC (l1 ++ (yb, yr, yk, ynum, yar, ysk, ylc, v, yfl, yrow) :: l2) = upd (fF yC cs) cy.toNatClampNeg v from fF_setc yC hcs hcse hce), (show fF yF (l1 ++ (yb, yr, yk, ynum, yar, ysk, ylc, v, yfl, yrow) :: l2) = fF yF cs from fF_samec yF hcse rfl)]), (by simp only [ru_k, if_pos hcs, if_pos f3, if_neg (pa_some f3), if_neg c4, if_pos w5, if_neg c6, (show fF yC cs cy.toNatClampNeg = ycr from fF_cy yC hcs hcse hce), (show fF yF cs cy.toNatClampNeg = yfl from fF_cy yF hcs hcse hce), (show fF yC (l1 ++ (yb, yr, yk, ynum, yar, ysk, ylc, v, yfl, yrow) :: l2) = upd (fF yC cs) cy.toNatClampNeg v from fF_setc yC hcs hcse hce), (show fF yF (l1 ++ (yb, yr, yk, ynum, yar, ysk, ylc, v, yfl, yrow) :: l2) = fF yF cs from fF_samec yF hcse rfl)]), (by simp only [ru_c, if_pos hcs, if_pos f3, if_neg (pa_some f3), if_neg c4, if_pos w5, if_neg c6, (show fF yC cs cy.toNatClampNeg = ycr from fF_cy yC hcs hcse hce), (show fF yF cs cy.toNatClampNeg = yfl from fF_cy yF hcs hcse hce), (show fF yC (l1 ++ (yb, yr, yk, ynum, yar, ysk, ylc, v, yfl, yrow) :: l2) = upd (fF yC cs) cy.toNatClampNeg v from fF_setc yC hcs hcse hce), (show fF yF (l1 ++ (yb, yr, yk, ynum, yar, ysk, ylc, v, yfl, yrow) :: l2) = fF yF cs from fF_samec yF hcse rfl)]), (by simp only [ru_f, if_pos hcs, if_pos f3, if_neg (pa_some f3), if_neg c4, if_pos w5, if_neg c6, (show fF yC cs cy.toNatClampNeg = ycr from fF_cy yC hcs hcse hce), (show fF yF cs cy.toNatClampNeg = yfl from fF_cy yF hcs hcse hce), (show fF yC (l1 ++ (yb, yr, yk, ynum, yar, ysk, ylc, v, yfl, yrow) :: l2) = upd (fF yC cs) cy.toNatClampNeg v from fF_setc yC hcs hcse hce), (show fF yF (l1 ++ (yb, yr, yk, ynum, yar, ysk, ylc, v, yfl, yrow) :: l2) = fF yF cs from fF_samec yF hcse rfl)]), (fF_samec yL hcse rfl), (fR_samec hcse rfl)⟩ hP hD (Nat.le_of_ble_eq_true rfl) (Nat.le_of_ble_eq_true rfl) dX11_rule_74
    by_cases w9 : what = 1
    · refine lv_lookup (tgt := 75) (off := 48) hx hb dX11_rule_27 (by decide) (by rw [w9]; decide) (by decide) ?_
      refine lv_iload_n hx hb dX11_rule_75 rfl (lv_at hl 4 rfl) ?_
      refine lv_iconst (v := 1) hx hb dX11_rule_76 (by decide) ?_
      refine lv_sipush (v := 1000) hx hb dX11_rule_77 (by decide) ?_
      refine pureIS (As := [.int v, .int 1, .int 1000]) (rest := []) F (c_within l v 1 1000) 3 gX11_rule_X11_within rfl (by decide +kernel) rfl rfl ⟨(Nat.le_of_ble_eq_true rfl), (Nat.le_of_ble_eq_true rfl)⟩ (Nat.le_of_ble_eq_true rfl) (Nat.le_of_ble_eq_true rfl) rfl hl.1 rfl (Nat.le_of_ble_eq_true rfl) dX11_rule_80 ?_
      refine lv_if_eq (tgt := 95) hx hb dX11_rule_83 (by decide) (fun c10 => ?_) (fun c10 => ?_)
      · refine lv_bipush (v := -2) hx hb dX11_rule_95 (by decide) ?_
        replace hP : va_P g.1 vwCl ([(h0, .inr (11, [.ref pl, .ref sa, .ref ea, .ref oa, .ref tsa, .ref usa, .ref vea, .ref lka, .ref ra, .ref sha, .ref tra, .int lf, .int std, .int tkd, .int tck])), (pl, .inr (4, [.int gv, .int lim, .ref ca, .int cnt, .ref la])), (ca, .inl (g.2 3, 6, .inr (.inr (.inr (.inr fc))))), (la, .inl (g.2 0, 6, .inl fla))] ++ cysW g (l1 ++ (yb, yr, yk, ynum, yar, ysk, ylc, ycr, yfl, yrow) :: l2)) H := cys_joinP (X := [(h0, .inr (11, [.ref pl, .ref sa, .ref ea, .ref oa, .ref tsa, .ref usa, .ref vea, .ref lka, .ref ra, .ref sha, .ref tra, .int lf, .int std, .int tkd, .int tck])), (pl, .inr (4, [.int gv, .int lim, .ref ca, .int cnt, .ref la])), (ca, .inl (g.2 3, 6, .inr (.inr (.inr (.inr fc))))), (la, .inl (g.2 0, 6, .inl fla))]) (y := (yb, yr, yk, ynum, yar, ysk, ylc, ycr, yfl, yrow)) (hP.part [0, 1, 2, 3, 4, 5] rfl)
        replace hD : va_D A ([(h0, .inr (11, [.ref pl, .ref sa, .ref ea, .ref oa, .ref tsa, .ref usa, .ref vea, .ref lka, .ref ra, .ref sha, .ref tra, .int lf, .int std, .int tkd, .int tck])), (pl, .inr (4, [.int gv, .int lim, .ref ca, .int cnt, .ref la])), (ca, .inl (g.2 3, 6, .inr (.inr (.inr (.inr fc))))), (la, .inl (g.2 0, 6, .inl fla))] ++ cysW g (l1 ++ (yb, yr, yk, ynum, yar, ysk, ylc, ycr, yfl, yrow) :: l2)) := cys_joinD (X := [(h0, .inr (11, [.ref pl, .ref sa, .ref ea, .ref oa, .ref tsa, .ref usa, .ref vea, .ref lka, .ref ra, .ref sha, .ref tra, .int lf, .int std, .int tkd, .int tck])), (pl, .inr (4, [.int gv, .int lim, .ref ca, .int cnt, .ref la])), (ca, .inl (g.2 3, 6, .inr (.inr (.inr (.inr fc))))), (la, .inl (g.2 0, 6, .inl fla))]) (y := (yb, yr, yk, ynum, yar, ysk, ylc, ycr, yfl, yrow)) (hD.part [0, 1, 2, 3, 4, 5] rfl rfl)
        rw [← hcse] at hP hD
        exact retI C hS (fla, cs) ⟨hcs, sames_rfl, (by simp only [ru_r, if_pos hcs, if_pos f3, if_neg (pa_some f3), if_neg c4, if_neg w5, if_pos w9, if_pos c10, (show fF yC cs cy.toNatClampNeg = ycr from fF_cy yC hcs hcse hce), (show fF yF cs cy.toNatClampNeg = yfl from fF_cy yF hcs hcse hce)]), (by simp only [ru_k, if_pos hcs, if_pos f3, if_neg (pa_some f3), if_neg c4, if_neg w5, if_pos w9, if_pos c10, (show fF yC cs cy.toNatClampNeg = ycr from fF_cy yC hcs hcse hce), (show fF yF cs cy.toNatClampNeg = yfl from fF_cy yF hcs hcse hce)]), (by simp only [ru_c, if_pos hcs, if_pos f3, if_neg (pa_some f3), if_neg c4, if_neg w5, if_pos w9, if_pos c10, (show fF yC cs cy.toNatClampNeg = ycr from fF_cy yC hcs hcse hce), (show fF yF cs cy.toNatClampNeg = yfl from fF_cy yF hcs hcse hce)]), (by simp only [ru_f, if_pos hcs, if_pos f3, if_neg (pa_some f3), if_neg c4, if_neg w5, if_pos w9, if_pos c10, (show fF yC cs cy.toNatClampNeg = ycr from fF_cy yC hcs hcse hce), (show fF yF cs cy.toNatClampNeg = yfl from fF_cy yF hcs hcse hce)]), rfl, rfl⟩ hP hD (Nat.le_of_ble_eq_true rfl) (Nat.le_of_ble_eq_true rfl) dX11_rule_97
      refine lv_aload hx hb dX11_rule_86 (lv_at hl 0 rfl) ?_
      refine lv_iload_n hx hb dX11_rule_88 rfl (lv_at hl 4 rfl) ?_
      refine kI (ck_elim (P := fun k9 => va_P g.1 vwCl ([(h0, .inr (11, [.ref pl, .ref sa, .ref ea, .ref oa, .ref tsa, .ref usa, .ref vea, .ref lka, .ref ra, .ref sha, .ref tra, .int lf, .int std, .int tkd, .int tck])), (pl, .inr (4, [.int gv, .int lim, .ref ca, .int cnt, .ref la])), (ca, .inl (g.2 3, 6, .inr (.inr (.inr (.inr fc))))), (la, .inl (g.2 0, 6, .inl fla)), (yb, .inr (ckI k9, [.int ynum, .int yar, .int ysk, .ref yr, .int ylc, .int ycr, .int yfl])), (yr, .inl (g.2 0, 10, .inl yrow))] ++ (cysW g l1 ++ cysW g l2)) H → KR p l e _ s m _ below meth c _ _ _ _ 0 0 89 ls [.int v, .ref yb] [] g A [(yb, .inr (ckI k9, [.int ynum, .int yar, .int ysk, .ref yr, .int ylc, .int ycr, .int yfl]))] (fun A => QI g A (fun r (_ : Unit) => r = yfl) (fun u : Unit => [(yb, .inr (ckI k9, [.int ynum, .int yar, .int ysk, .ref yr, .int ylc, .int ycr, .int v]))]))) (fun hP => (rnV (As := [.int v]) (rest := []) (Cn := RX0) C (y0_newFlow l g yb yr ynum yar ysk ylc ycr yfl v) 1 gX11_rule_X0_newFlow rfl (by decide +kernel) ⟨(Nat.le_of_ble_eq_true rfl), (Nat.le_of_ble_eq_true rfl)⟩ hP (k := 4) (ci := 0) rfl rfl rfl rfl hl.1 rfl (Nat.le_of_ble_eq_true rfl) dX11_rule_89 ⟨(Nat.le_of_ble_eq_true rfl), (Nat.le_of_ble_eq_true rfl)⟩)) (fun hP => (rnU (As := [.int v]) (rest := []) (Cn := RX2) C (y2_newFlow l g yb yr ynum yar ysk ylc ycr yfl v) 1 gX11_rule_X0_newFlow_u100X2 rfl rfl (by decide +kernel) ⟨(Nat.le_of_ble_eq_true rfl), (Nat.le_of_ble_eq_true rfl)⟩ hP (k := 4) (ci := 2) rfl rfl rfl rfl hl.1 rfl (Nat.le_of_ble_eq_true rfl) dX11_rule_89 ⟨(Nat.le_of_ble_eq_true rfl), (Nat.le_of_ble_eq_true rfl)⟩)) (fun hP => (rnU (As := [.int v]) (rest := []) (Cn := RX10) C (y10_newFlow l g yb yr ynum yar ysk ylc ycr yfl v) 1 gX11_rule_X0_newFlow_u100X10 rfl rfl (by decide +kernel) ⟨(Nat.le_of_ble_eq_true rfl), (Nat.le_of_ble_eq_true rfl)⟩ hP (k := 4) (ci := 10) rfl rfl rfl rfl hl.1 rfl (Nat.le_of_ble_eq_true rfl) dX11_rule_89 ⟨(Nat.le_of_ble_eq_true rfl), (Nat.le_of_ble_eq_true rfl)⟩)) yk hP) (spM (X := [(h0, .inr (11, [.ref pl, .ref sa, .ref ea, .ref oa, .ref tsa, .ref usa, .ref vea, .ref lka, .ref ra, .ref sha, .ref tra, .int lf, .int std, .int tkd, .int tck])), (pl, .inr (4, [.int gv, .int lim, .ref ca, .int cnt, .ref la])), (ca, .inl (g.2 3, 6, .inr (.inr (.inr (.inr fc))))), (la, .inl (g.2 0, 6, .inl fla)), (yb, .inr (ckI yk, [.int ynum, .int yar, .int ysk, .ref yr, .int ylc, .int ycr, .int yfl])), (yr, .inl (g.2 0, 10, .inl yrow))]) (pl := (cysW g l1 ++ cysW g l2)) [false, false, false, false, true, false] hP hD rfl) hA hS (fun r12 u11 H locs hw hP hD hS => ?_)
      replace hP : va_P g.1 vwCl ([(h0, .inr (11, [.ref pl, .ref sa, .ref ea, .ref oa, .ref tsa, .ref usa, .ref vea, .ref lka, .ref ra, .ref sha, .ref tra, .int lf, .int std, .int tkd, .int tck])), (pl, .inr (4, [.int gv, .int lim, .ref ca, .int cnt, .ref la])), (ca, .inl (g.2 3, 6, .inr (.inr (.inr (.inr fc))))), (la, .inl (g.2 0, 6, .inl fla)), (yb, .inr (ckI yk, [.int ynum, .int yar, .int ysk, .ref yr, .int ylc, .int ycr, .int v])), (yr, .inl (g.2 0, 10, .inl yrow))] ++ (cysW g l1 ++ cysW g l2)) H := hP
      replace hD : va_D A ([(h0, .inr (11, [.ref pl, .ref sa, .ref ea, .ref oa, .ref tsa, .ref usa, .ref vea, .ref lka, .ref ra, .ref sha, .ref tra, .int lf, .int std, .int tkd, .int tck])), (pl, .inr (4, [.int gv, .int lim, .ref ca, .int cnt, .ref la])), (ca, .inl (g.2 3, 6, .inr (.inr (.inr (.inr fc))))), (la, .inl (g.2 0, 6, .inl fla)), (yb, .inr (ckI yk, [.int ynum, .int yar, .int ysk, .ref yr, .int ylc, .int ycr, .int v])), (yr, .inl (g.2 0, 10, .inl yrow))] ++ (cysW g l1 ++ cysW g l2)) := hD
      refine nx_i (v := yfl) hw ?_
      refine lv_goto (tgt := 97) hx hb dX11_rule_92 (by decide) ?_
      replace hP : va_P g.1 vwCl ([(h0, .inr (11, [.ref pl, .ref sa, .ref ea, .ref oa, .ref tsa, .ref usa, .ref vea, .ref lka, .ref ra, .ref sha, .ref tra, .int lf, .int std, .int tkd, .int tck])), (pl, .inr (4, [.int gv, .int lim, .ref ca, .int cnt, .ref la])), (ca, .inl (g.2 3, 6, .inr (.inr (.inr (.inr fc))))), (la, .inl (g.2 0, 6, .inl fla))] ++ cysW g (l1 ++ (yb, yr, yk, ynum, yar, ysk, ylc, ycr, v, yrow) :: l2)) H := cys_joinP (X := [(h0, .inr (11, [.ref pl, .ref sa, .ref ea, .ref oa, .ref tsa, .ref usa, .ref vea, .ref lka, .ref ra, .ref sha, .ref tra, .int lf, .int std, .int tkd, .int tck])), (pl, .inr (4, [.int gv, .int lim, .ref ca, .int cnt, .ref la])), (ca, .inl (g.2 3, 6, .inr (.inr (.inr (.inr fc))))), (la, .inl (g.2 0, 6, .inl fla))]) (y := (yb, yr, yk, ynum, yar, ysk, ylc, ycr, v, yrow)) (hP.part [0, 1, 2, 3, 4, 5] rfl)
      replace hD : va_D A ([(h0, .inr (11, [.ref pl, .ref sa, .ref ea, .ref oa, .ref tsa, .ref usa, .ref vea, .ref lka, .ref ra, .ref sha, .ref tra, .int lf, .int std, .int tkd, .int tck])), (pl, .inr (4, [.int gv, .int lim, .ref ca, .int cnt, .ref la])), (ca, .inl (g.2 3, 6, .inr (.inr (.inr (.inr fc))))), (la, .inl (g.2 0, 6, .inl fla))] ++ cysW g (l1 ++ (yb, yr, yk, ynum, yar, ysk, ylc, ycr, v, yrow) :: l2)) := cys_joinD (X := [(h0, .inr (11, [.ref pl, .ref sa, .ref ea, .ref oa, .ref tsa, .ref usa, .ref vea, .ref lka, .ref ra, .ref sha, .ref tra, .int lf, .int std, .int tkd, .int tck])), (pl, .inr (4, [.int gv, .int lim, .ref ca, .int cnt, .ref la])), (ca, .inl (g.2 3, 6, .inr (.inr (.inr (.inr fc))))), (la, .inl (g.2 0, 6, .inl fla))]) (y := (yb, yr, yk, ynum, yar, ysk, ylc, ycr, v, yrow)) (hD.part [0, 1, 2, 3, 4, 5] rfl rfl)
      exact retI C hS (fla, (l1 ++ (yb, yr, yk, ynum, yar, ysk, ylc, ycr, v, yrow) :: l2)) ⟨(CS_same hcs hcse rfl), (sames_set hcse rfl rfl rfl rfl), (by simp only [ru_r, if_pos hcs, if_pos f3, if_neg (pa_some f3), if_neg c4, if_neg w5, if_pos w9, if_neg c10, (show fF yC cs cy.toNatClampNeg = ycr from fF_cy yC hcs hcse hce), (show fF yF cs cy.toNatClampNeg = yfl from fF_cy yF hcs hcse hce), (show fF yC (l1 ++ (yb, yr, yk, ynum, yar, ysk, ylc, ycr, v, yrow) :: l2) = fF yC cs from fF_samec yC hcse rfl), (show fF yF (l1 ++ (yb, yr, yk, ynum, yar, ysk, ylc, ycr, v, yrow) :: l2) = upd (fF yF cs) cy.toNatClampNeg v from fF_setc yF hcs hcse hce)]), (by simp only [ru_k, if_pos hcs, if_pos f3, if_neg (pa_some f3), if_neg c4, if_neg w5, if_pos w9, if_neg c10, (show fF yC cs cy.toNatClampNeg = ycr from fF_cy yC hcs hcse hce), (show fF yF cs cy.toNatClampNeg = yfl from fF_cy yF hcs hcse hce), (show fF yC (l1 ++ (yb, yr, yk, ynum, yar, ysk, ylc, ycr, v, yrow) :: l2) = fF yC cs from fF_samec yC hcse rfl), (show fF yF (l1 ++ (yb, yr, yk, ynum, yar, ysk, ylc, ycr, v, yrow) :: l2) = upd (fF yF cs) cy.toNatClampNeg v from fF_setc yF hcs hcse hce)]), (by simp only [ru_c, if_pos hcs, if_pos f3, if_neg (pa_some f3), if_neg c4, if_neg w5, if_pos w9, if_neg c10, (show fF yC cs cy.toNatClampNeg = ycr from fF_cy yC hcs hcse hce), (show fF yF cs cy.toNatClampNeg = yfl from fF_cy yF hcs hcse hce), (show fF yC (l1 ++ (yb, yr, yk, ynum, yar, ysk, ylc, ycr, v, yrow) :: l2) = fF yC cs from fF_samec yC hcse rfl), (show fF yF (l1 ++ (yb, yr, yk, ynum, yar, ysk, ylc, ycr, v, yrow) :: l2) = upd (fF yF cs) cy.toNatClampNeg v from fF_setc yF hcs hcse hce)]), (by simp only [ru_f, if_pos hcs, if_pos f3, if_neg (pa_some f3), if_neg c4, if_neg w5, if_pos w9, if_neg c10, (show fF yC cs cy.toNatClampNeg = ycr from fF_cy yC hcs hcse hce), (show fF yF cs cy.toNatClampNeg = yfl from fF_cy yF hcs hcse hce), (show fF yC (l1 ++ (yb, yr, yk, ynum, yar, ysk, ylc, ycr, v, yrow) :: l2) = fF yC cs from fF_samec yC hcse rfl), (show fF yF (l1 ++ (yb, yr, yk, ynum, yar, ysk, ylc, ycr, v, yrow) :: l2) = upd (fF yF cs) cy.toNatClampNeg v from fF_setc yF hcs hcse hce)]), (fF_samec yL hcse rfl), (fR_samec hcse rfl)⟩ hP hD (Nat.le_of_ble_eq_true rfl) (Nat.le_of_ble_eq_true rfl) dX11_rule_97
    refine lv_lookup (tgt := 98) (off := 71) hx hb dX11_rule_27 (by decide) (by rw [lv_osw (k := 0) w5 (by decide)]; rw [lv_osw (k := 1) w9 (by decide)]; rfl) (by decide) ?_
    refine lv_iload_n hx hb dX11_rule_98 rfl (lv_at hl 4 rfl) ?_
    refine lv_iconst (v := 0) hx hb dX11_rule_99 (by decide) ?_
    refine lv_bipush (v := 100) hx hb dX11_rule_100 (by decide) ?_
    refine pureIS (As := [.int v, .int 0, .int 100]) (rest := []) F (c_within l v 0 100) 3 gX11_rule_X11_within rfl (by decide +kernel) rfl rfl ⟨(Nat.le_of_ble_eq_true rfl), (Nat.le_of_ble_eq_true rfl)⟩ (Nat.le_of_ble_eq_true rfl) (Nat.le_of_ble_eq_true rfl) rfl hl.1 rfl (Nat.le_of_ble_eq_true rfl) dX11_rule_102 ?_
    refine lv_if_eq (tgt := 123) hx hb dX11_rule_105 (by decide) (fun c13 => ?_) (fun c13 => ?_)
    · refine lv_bipush (v := -2) hx hb dX11_rule_123 (by decide) ?_
      replace hP : va_P g.1 vwCl ([(h0, .inr (11, [.ref pl, .ref sa, .ref ea, .ref oa, .ref tsa, .ref usa, .ref vea, .ref lka, .ref ra, .ref sha, .ref tra, .int lf, .int std, .int tkd, .int tck])), (pl, .inr (4, [.int gv, .int lim, .ref ca, .int cnt, .ref la])), (ca, .inl (g.2 3, 6, .inr (.inr (.inr (.inr fc))))), (la, .inl (g.2 0, 6, .inl fla))] ++ cysW g (l1 ++ (yb, yr, yk, ynum, yar, ysk, ylc, ycr, yfl, yrow) :: l2)) H := cys_joinP (X := [(h0, .inr (11, [.ref pl, .ref sa, .ref ea, .ref oa, .ref tsa, .ref usa, .ref vea, .ref lka, .ref ra, .ref sha, .ref tra, .int lf, .int std, .int tkd, .int tck])), (pl, .inr (4, [.int gv, .int lim, .ref ca, .int cnt, .ref la])), (ca, .inl (g.2 3, 6, .inr (.inr (.inr (.inr fc))))), (la, .inl (g.2 0, 6, .inl fla))]) (y := (yb, yr, yk, ynum, yar, ysk, ylc, ycr, yfl, yrow)) (hP.part [0, 1, 2, 3, 4, 5] rfl)
      replace hD : va_D A ([(h0, .inr (11, [.ref pl, .ref sa, .ref ea, .ref oa, .ref tsa, .ref usa, .ref vea, .ref lka, .ref ra, .ref sha, .ref tra, .int lf, .int std, .int tkd, .int tck])), (pl, .inr (4, [.int gv, .int lim, .ref ca, .int cnt, .ref la])), (ca, .inl (g.2 3, 6, .inr (.inr (.inr (.inr fc))))), (la, .inl (g.2 0, 6, .inl fla))] ++ cysW g (l1 ++ (yb, yr, yk, ynum, yar, ysk, ylc, ycr, yfl, yrow) :: l2)) := cys_joinD (X := [(h0, .inr (11, [.ref pl, .ref sa, .ref ea, .ref oa, .ref tsa, .ref usa, .ref vea, .ref lka, .ref ra, .ref sha, .ref tra, .int lf, .int std, .int tkd, .int tck])), (pl, .inr (4, [.int gv, .int lim, .ref ca, .int cnt, .ref la])), (ca, .inl (g.2 3, 6, .inr (.inr (.inr (.inr fc))))), (la, .inl (g.2 0, 6, .inl fla))]) (y := (yb, yr, yk, ynum, yar, ysk, ylc, ycr, yfl, yrow)) (hD.part [0, 1, 2, 3, 4, 5] rfl rfl)
      rw [← hcse] at hP hD
      exact retI C hS (fla, cs) ⟨hcs, sames_rfl, (by simp only [ru_r, if_pos hcs, if_pos f3, if_neg (pa_some f3), if_neg c4, if_neg w5, if_neg w9, if_pos c13, (show fF yC cs cy.toNatClampNeg = ycr from fF_cy yC hcs hcse hce), (show fF yF cs cy.toNatClampNeg = yfl from fF_cy yF hcs hcse hce)]), (by simp only [ru_k, if_pos hcs, if_pos f3, if_neg (pa_some f3), if_neg c4, if_neg w5, if_neg w9, if_pos c13, (show fF yC cs cy.toNatClampNeg = ycr from fF_cy yC hcs hcse hce), (show fF yF cs cy.toNatClampNeg = yfl from fF_cy yF hcs hcse hce)]), (by simp only [ru_c, if_pos hcs, if_pos f3, if_neg (pa_some f3), if_neg c4, if_neg w5, if_neg w9, if_pos c13, (show fF yC cs cy.toNatClampNeg = ycr from fF_cy yC hcs hcse hce), (show fF yF cs cy.toNatClampNeg = yfl from fF_cy yF hcs hcse hce)]), (by simp only [ru_f, if_pos hcs, if_pos f3, if_neg (pa_some f3), if_neg c4, if_neg w5, if_neg w9, if_pos c13, (show fF yC cs cy.toNatClampNeg = ycr from fF_cy yC hcs hcse hce), (show fF yF cs cy.toNatClampNeg = yfl from fF_cy yF hcs hcse hce)]), rfl, rfl⟩ hP hD (Nat.le_of_ble_eq_true rfl) (Nat.le_of_ble_eq_true rfl) dX11_rule_125
    refine lv_aload_n hx hb dX11_rule_108 rfl (lv_at hl 1 rfl) ?_
    refine va_get (D := g.1) (ci := 11) (v := .ref pl) (C := RX11) (T := TX11) (N := 15) hx hb hts hc_X11_rule_X11 hown hK hP 0 rfl rfl 0 (by decide) (hts (.fieldLink RX11 12 "OilPush" "plant" "LOilPush$Plant;") (by decide +kernel)) (fun _ h => h) rfl dX11_rule_109 ?_
    refine va_get (D := g.1) (ci := 4) (v := .ref la) (C := RX4) (T := TX4) (N := 5) hx hb hts hc_X11_rule_X4 hown hK hP 1 rfl rfl 4 (by decide) (hts (.fieldLink RX11 103 "OilPush$Plant" "leaks" "[I") (by decide +kernel)) (fun _ h => h) rfl dX11_rule_112 ?_
    refine lv_iload_n hx hb dX11_rule_115 rfl (lv_at hl 2 rfl) ?_
    refine lv_iload_n hx hb dX11_rule_116 rfl (lv_at hl 4 rfl) ?_
    refine kI (rnS (As := [.ref la, .int cy, .int v]) (rest := []) C (x_swap l g la fla cy v) 3 gX11_rule_X11_swap rfl (by decide +kernel) ⟨(Nat.le_of_ble_eq_true rfl), (Nat.le_of_ble_eq_true rfl)⟩ rfl hl.1 rfl (Nat.le_of_ble_eq_true rfl) dX11_rule_117 ⟨(Nat.le_of_ble_eq_true rfl), (Nat.le_of_ble_eq_true rfl)⟩) (spM (X := [(h0, .inr (11, [.ref pl, .ref sa, .ref ea, .ref oa, .ref tsa, .ref usa, .ref vea, .ref lka, .ref ra, .ref sha, .ref tra, .int lf, .int std, .int tkd, .int tck])), (pl, .inr (4, [.int gv, .int lim, .ref ca, .int cnt, .ref la])), (ca, .inl (g.2 3, 6, .inr (.inr (.inr (.inr fc))))), (la, .inl (g.2 0, 6, .inl fla)), (yb, .inr (ckI yk, [.int ynum, .int yar, .int ysk, .ref yr, .int ylc, .int ycr, .int yfl])), (yr, .inl (g.2 0, 10, .inl yrow))]) (pl := (cysW g l1 ++ cysW g l2)) [false, false, false, true, false, false] hP hD rfl) hA hS (fun r14 u15 H locs hw hP hD hS => ?_)
    have hre := hw
    replace hP : va_P g.1 vwCl ([(h0, .inr (11, [.ref pl, .ref sa, .ref ea, .ref oa, .ref tsa, .ref usa, .ref vea, .ref lka, .ref ra, .ref sha, .ref tra, .int lf, .int std, .int tkd, .int tck])), (pl, .inr (4, [.int gv, .int lim, .ref ca, .int cnt, .ref la])), (ca, .inl (g.2 3, 6, .inr (.inr (.inr (.inr fc))))), (la, .inl (g.2 0, 6, .inl (r_c_set 6 fla cy v))), (yb, .inr (ckI yk, [.int ynum, .int yar, .int ysk, .ref yr, .int ylc, .int ycr, .int yfl])), (yr, .inl (g.2 0, 10, .inl yrow))] ++ (cysW g l1 ++ cysW g l2)) H := hP
    replace hD : va_D A ([(h0, .inr (11, [.ref pl, .ref sa, .ref ea, .ref oa, .ref tsa, .ref usa, .ref vea, .ref lka, .ref ra, .ref sha, .ref tra, .int lf, .int std, .int tkd, .int tck])), (pl, .inr (4, [.int gv, .int lim, .ref ca, .int cnt, .ref la])), (ca, .inl (g.2 3, 6, .inr (.inr (.inr (.inr fc))))), (la, .inl (g.2 0, 6, .inl (r_c_set 6 fla cy v))), (yb, .inr (ckI yk, [.int ynum, .int yar, .int ysk, .ref yr, .int ylc, .int ycr, .int yfl])), (yr, .inl (g.2 0, 10, .inl yrow))] ++ (cysW g l1 ++ cysW g l2)) := hD
    refine nx_i (v := (r_c_get 6 fla cy)) hre ?_
    refine lv_goto (tgt := 125) hx hb dX11_rule_120 (by decide) ?_
    replace hP : va_P g.1 vwCl ([(h0, .inr (11, [.ref pl, .ref sa, .ref ea, .ref oa, .ref tsa, .ref usa, .ref vea, .ref lka, .ref ra, .ref sha, .ref tra, .int lf, .int std, .int tkd, .int tck])), (pl, .inr (4, [.int gv, .int lim, .ref ca, .int cnt, .ref la])), (ca, .inl (g.2 3, 6, .inr (.inr (.inr (.inr fc))))), (la, .inl (g.2 0, 6, .inl (r_c_set 6 fla cy v)))] ++ cysW g (l1 ++ (yb, yr, yk, ynum, yar, ysk, ylc, ycr, yfl, yrow) :: l2)) H := cys_joinP (X := [(h0, .inr (11, [.ref pl, .ref sa, .ref ea, .ref oa, .ref tsa, .ref usa, .ref vea, .ref lka, .ref ra, .ref sha, .ref tra, .int lf, .int std, .int tkd, .int tck])), (pl, .inr (4, [.int gv, .int lim, .ref ca, .int cnt, .ref la])), (ca, .inl (g.2 3, 6, .inr (.inr (.inr (.inr fc))))), (la, .inl (g.2 0, 6, .inl (r_c_set 6 fla cy v)))]) (y := (yb, yr, yk, ynum, yar, ysk, ylc, ycr, yfl, yrow)) (hP.part [0, 1, 2, 3, 4, 5] rfl)
    replace hD : va_D A ([(h0, .inr (11, [.ref pl, .ref sa, .ref ea, .ref oa, .ref tsa, .ref usa, .ref vea, .ref lka, .ref ra, .ref sha, .ref tra, .int lf, .int std, .int tkd, .int tck])), (pl, .inr (4, [.int gv, .int lim, .ref ca, .int cnt, .ref la])), (ca, .inl (g.2 3, 6, .inr (.inr (.inr (.inr fc))))), (la, .inl (g.2 0, 6, .inl (r_c_set 6 fla cy v)))] ++ cysW g (l1 ++ (yb, yr, yk, ynum, yar, ysk, ylc, ycr, yfl, yrow) :: l2)) := cys_joinD (X := [(h0, .inr (11, [.ref pl, .ref sa, .ref ea, .ref oa, .ref tsa, .ref usa, .ref vea, .ref lka, .ref ra, .ref sha, .ref tra, .int lf, .int std, .int tkd, .int tck])), (pl, .inr (4, [.int gv, .int lim, .ref ca, .int cnt, .ref la])), (ca, .inl (g.2 3, 6, .inr (.inr (.inr (.inr fc))))), (la, .inl (g.2 0, 6, .inl (r_c_set 6 fla cy v)))]) (y := (yb, yr, yk, ynum, yar, ysk, ylc, ycr, yfl, yrow)) (hD.part [0, 1, 2, 3, 4, 5] rfl rfl)
    rw [← hcse] at hP hD
    exact retI C hS ((r_c_set 6 fla cy v), cs) ⟨hcs, sames_rfl, (by simp only [ru_r, if_pos hcs, if_pos f3, if_neg (pa_some f3), if_neg c4, if_neg w5, if_neg w9, if_neg c13, (show fF yC cs cy.toNatClampNeg = ycr from fF_cy yC hcs hcse hce), (show fF yF cs cy.toNatClampNeg = yfl from fF_cy yF hcs hcse hce)]), (by simp only [ru_k, if_pos hcs, if_pos f3, if_neg (pa_some f3), if_neg c4, if_neg w5, if_neg w9, if_neg c13, (show fF yC cs cy.toNatClampNeg = ycr from fF_cy yC hcs hcse hce), (show fF yF cs cy.toNatClampNeg = yfl from fF_cy yF hcs hcse hce)]), (by simp only [ru_c, if_pos hcs, if_pos f3, if_neg (pa_some f3), if_neg c4, if_neg w5, if_neg w9, if_neg c13, (show fF yC cs cy.toNatClampNeg = ycr from fF_cy yC hcs hcse hce), (show fF yF cs cy.toNatClampNeg = yfl from fF_cy yF hcs hcse hce)]), (by simp only [ru_f, if_pos hcs, if_pos f3, if_neg (pa_some f3), if_neg c4, if_neg w5, if_neg w9, if_neg c13, (show fF yC cs cy.toNatClampNeg = ycr from fF_cy yC hcs hcse hce), (show fF yF cs cy.toNatClampNeg = yfl from fF_cy yF hcs hcse hce)]), rfl, rfl⟩ hP hD (Nat.le_of_ble_eq_true rfl) (Nat.le_of_ble_eq_true rfl) dX11_rule_125
  refine lv_iconst (v := -1) hx hb dX11_rule_24 (by decide) ?_
  replace hP : va_P g.1 vwCl ([(h0, .inr (11, [.ref pl, .ref sa, .ref ea, .ref oa, .ref tsa, .ref usa, .ref vea, .ref lka, .ref ra, .ref sha, .ref tra, .int lf, .int std, .int tkd, .int tck])), (pl, .inr (4, [.int gv, .int lim, .ref ca, .int cnt, .ref la])), (ca, .inl (g.2 3, 6, .inr (.inr (.inr (.inr fc))))), (la, .inl (g.2 0, 6, .inl fla))] ++ cysW g (l1 ++ (yb, yr, yk, ynum, yar, ysk, ylc, ycr, yfl, yrow) :: l2)) H := cys_joinP (X := [(h0, .inr (11, [.ref pl, .ref sa, .ref ea, .ref oa, .ref tsa, .ref usa, .ref vea, .ref lka, .ref ra, .ref sha, .ref tra, .int lf, .int std, .int tkd, .int tck])), (pl, .inr (4, [.int gv, .int lim, .ref ca, .int cnt, .ref la])), (ca, .inl (g.2 3, 6, .inr (.inr (.inr (.inr fc))))), (la, .inl (g.2 0, 6, .inl fla))]) (y := (yb, yr, yk, ynum, yar, ysk, ylc, ycr, yfl, yrow)) (hP.part [0, 1, 2, 3, 4, 5] rfl)
  replace hD : va_D A ([(h0, .inr (11, [.ref pl, .ref sa, .ref ea, .ref oa, .ref tsa, .ref usa, .ref vea, .ref lka, .ref ra, .ref sha, .ref tra, .int lf, .int std, .int tkd, .int tck])), (pl, .inr (4, [.int gv, .int lim, .ref ca, .int cnt, .ref la])), (ca, .inl (g.2 3, 6, .inr (.inr (.inr (.inr fc))))), (la, .inl (g.2 0, 6, .inl fla))] ++ cysW g (l1 ++ (yb, yr, yk, ynum, yar, ysk, ylc, ycr, yfl, yrow) :: l2)) := cys_joinD (X := [(h0, .inr (11, [.ref pl, .ref sa, .ref ea, .ref oa, .ref tsa, .ref usa, .ref vea, .ref lka, .ref ra, .ref sha, .ref tra, .int lf, .int std, .int tkd, .int tck])), (pl, .inr (4, [.int gv, .int lim, .ref ca, .int cnt, .ref la])), (ca, .inl (g.2 3, 6, .inr (.inr (.inr (.inr fc))))), (la, .inl (g.2 0, 6, .inl fla))]) (y := (yb, yr, yk, ynum, yar, ysk, ylc, ycr, yfl, yrow)) (hD.part [0, 1, 2, 3, 4, 5] rfl rfl)
  rw [← hcse] at hP hD
  exact retI C hS (fla, cs) ⟨hcs, sames_rfl, (by simp only [ru_r, if_pos hcs, if_pos f3, if_neg (pa_some f3), if_pos c4, (show fF yC cs cy.toNatClampNeg = ycr from fF_cy yC hcs hcse hce), (show fF yF cs cy.toNatClampNeg = yfl from fF_cy yF hcs hcse hce)]), (by simp only [ru_k, if_pos hcs, if_pos f3, if_neg (pa_some f3), if_pos c4, (show fF yC cs cy.toNatClampNeg = ycr from fF_cy yC hcs hcse hce), (show fF yF cs cy.toNatClampNeg = yfl from fF_cy yF hcs hcse hce)]), (by simp only [ru_c, if_pos hcs, if_pos f3, if_neg (pa_some f3), if_pos c4, (show fF yC cs cy.toNatClampNeg = ycr from fF_cy yC hcs hcse hce), (show fF yF cs cy.toNatClampNeg = yfl from fF_cy yF hcs hcse hce)]), (by simp only [ru_f, if_pos hcs, if_pos f3, if_neg (pa_some f3), if_pos c4, (show fF yC cs cy.toNatClampNeg = ycr from fF_cy yC hcs hcse hce), (show fF yF cs cy.toNatClampNeg = yfl from fF_cy yF hcs hcse hce)]), rfl, rfl⟩ hP hD (Nat.le_of_ble_eq_true rfl) (Nat.le_of_ble_eq_true rfl) dX11_rule_25
