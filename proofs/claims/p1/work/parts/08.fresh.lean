theorem hi_X4_at_X4 : ∀ w ∈ wsX40, w ∈ wsX4_at := fun w h => List.mem_cons_of_mem _ (List.mem_append_right _ h)
set_option maxRecDepth 100000 in
set_option maxHeartbeats 4000000 in
theorem c_at (l : Launch) (g : Gt) (a0 : Nat) (gi : Int32) (li : Int32) (b2 : Nat) (b4 : Nat) (cy : Int32)  : Ctr l g yX4_at wsX4_at ({ frames := 0, cells := 0, slots := 0, locals := 0 } : Room) [.ref a0, .int cy] [(a0, .inr (4, [.int gi, .int li, .ref b2, .int 0, .ref b4]))] (fun A => QQ g A (fun r (_ : Unit) => r = none) (fun _u : Unit => [(a0, .inr (4, [.int gi, .int li, .ref b2, .int 0, .ref b4]))])) := by
  refine Ctr.of (cc := cX4_at) (maxL := 2) (ret := (some (.object "OilPush$Cylinder"))) (by decide) rfl (Nat.le_of_ble_eq_true rfl) ?_
  intro p e s m below meth c A ls H C hP hD hA hS hl
  obtain ⟨hx, hb, hr, hts, hown, hlocks, hml, hin, hKN⟩ := id C
  have hK := hKN.1
  have hN := hKN.2
  have F : CallFix p m c cX4_at 2 s _ wsX4_at yX4_at.cls := ⟨hx, hb, hml, hown, hts⟩
  have hl : lv_has ls 2 [(0, .ref a0), (1, .int cy)] := hl
  refine lv_iload_n hx hb dX4_at_0 rfl (lv_at hl 1 rfl) ?_
  refine lv_if_lt (tgt := 30) hx hb dX4_at_1 (by decide) (fun c1 => ?_) (fun c1 => ?_)
  · refine lv_null hx hb dX4_at_30 ?_
    exact retQ (r := none) C hS () rfl (hP.pick [0] rfl) (hD.sub [0] rfl rfl) (Nat.le_of_ble_eq_true rfl) (Nat.le_of_ble_eq_true rfl) rfl dX4_at_31
  refine lv_iload_n hx hb dX4_at_4 rfl (lv_at hl 1 rfl) ?_
  refine lv_aload_n hx hb dX4_at_5 rfl (lv_at hl 0 rfl) ?_
  refine va_get (D := g.1) (ci := 4) (v := .int 0) (C := RX4) (T := TX4) (N := 5) hx hb hts hi_X4_at_X4 hown hK hP 0 rfl rfl 3 (by decide) (hts (.fieldLink RX4 25 "OilPush$Plant" "count" "I") (by decide +kernel)) (fun _ h => h) rfl dX4_at_6 ?_
  refine lv_icmp_ge (tgt := 30) hx hb dX4_at_9 (by decide) (fun _ => ?_) (fun cc0 => absurd (Int32.not_lt.mp c1) cc0)
  refine lv_null hx hb dX4_at_30 ?_
  exact retQ (r := none) C hS () rfl (hP.pick [0] rfl) (hD.sub [0] rfl rfl) (Nat.le_of_ble_eq_true rfl) (Nat.le_of_ble_eq_true rfl) rfl dX4_at_31
theorem hi_X11_pump_X11 : ∀ w ∈ wsX110, w ∈ wsX11_pump := fun w h => List.mem_cons_of_mem _ (List.mem_append_left _ (List.mem_append_right _ h))
theorem hi_X11_pump_X4 : ∀ w ∈ wsX40, w ∈ wsX11_pump := fun w h => List.mem_cons_of_mem _ (List.mem_append_right _ h)
def r_x_pump (gi : Int32) (li : Int32) (what : Int32) (v : Int32) : Int32 := (if what = 0 then (if (r_c_within v 0 1000) = 0 then (-2) else gi) else (if what = 1 then (if (r_c_within v 1 1000) = 0 then (-2) else li) else (-1)))
set_option maxRecDepth 100000 in
set_option maxHeartbeats 4000000 in
theorem x_pump (l : Launch) (g : Gt) (h0 : Nat) (a0 : Nat) (a1 : Nat) (a2 : Nat) (a3 : Nat) (a4 : Nat) (a5 : Nat) (a6 : Nat) (a7 : Nat) (a8 : Nat) (a9 : Nat) (a10 : Nat) (gi : Int32) (li : Int32) (b2 : Nat) (b4 : Nat) (what : Int32) (v : Int32)  : Ctr l g yX11_pump wsX11_pump ({ frames := 1, cells := 0, slots := 0, locals := 22 } : Room) [.ref h0, .int what, .int v] [(h0, .inr (11, [.ref a0, .ref a1, .ref a2, .ref a3, .ref a4, .ref a5, .ref a6, .ref a7, .ref a8, .ref a9, .ref a10, .int 0, .int 0, .int 0, .int 0])), (a0, .inr (4, [.int gi, .int li, .ref b2, .int 0, .ref b4]))] (fun A => QI g A (fun r (_ : Unit) => r = (r_x_pump gi li what v)) (fun _u : Unit => [])) := by
  refine Ctr.of (cc := cX11_pump) (maxL := 4) (ret := (some .int)) (by decide) rfl (Nat.le_of_ble_eq_true rfl) ?_
  intro p e s m below meth c A ls H C hP hD hA hS hl
  obtain ⟨hx, hb, hr, hts, hown, hlocks, hml, hin, hKN⟩ := id C
  have hK := hKN.1
  have hN := hKN.2
  have F : CallFix p m c cX11_pump 4 s _ wsX11_pump yX11_pump.cls := ⟨hx, hb, hml, hown, hts⟩
  have hl : lv_has ls 4 [(0, .ref h0), (1, .int what), (2, .int v)] := hl
  refine lv_iload_n hx hb dX11_pump_0 rfl (lv_at hl 1 rfl) ?_
  refine lv_if_eq (tgt := 11) hx hb dX11_pump_1 (by decide) (fun c1 => ?_) (fun c1 => ?_)
  · refine lv_iload_n hx hb dX11_pump_11 rfl (lv_at hl 2 rfl) ?_
    refine lv_iload_n hx hb dX11_pump_12 rfl (lv_at hl 1 rfl) ?_
    refine lv_if_ne (tgt := 20) hx hb dX11_pump_13 (by decide) (fun cc0 => absurd c1 cc0) (fun _ => ?_)
    refine lv_iconst (v := 0) hx hb dX11_pump_16 (by decide) ?_
    refine lv_goto (tgt := 21) hx hb dX11_pump_17 (by decide) ?_
    refine lv_sipush (v := 1000) hx hb dX11_pump_21 (by decide) ?_
    refine pureIS (As := [.int v, .int 0, .int 1000]) (rest := []) F (c_within l v 0 1000) 3 gX11_pump_X11_within rfl (by decide +kernel) rfl rfl ⟨(Nat.le_of_ble_eq_true rfl), (Nat.le_of_ble_eq_true rfl)⟩ (Nat.le_of_ble_eq_true rfl) (Nat.le_of_ble_eq_true rfl) rfl hl.1 rfl (Nat.le_of_ble_eq_true rfl) dX11_pump_24 ?_
    refine lv_if_ne (tgt := 33) hx hb dX11_pump_27 (by decide) (fun c2 => ?_) (fun c2 => ?_)
    · refine lv_iload_n hx hb dX11_pump_33 rfl (lv_at hl 1 rfl) ?_
      refine lv_if_ne (tgt := 47) hx hb dX11_pump_34 (by decide) (fun cc0 => absurd c1 cc0) (fun _ => ?_)
      refine lv_aload_n hx hb dX11_pump_37 rfl (lv_at hl 0 rfl) ?_
      refine va_get (D := g.1) (ci := 11) (v := .ref a0) (C := RX11) (T := TX11) (N := 15) hx hb hts hi_X11_pump_X11 hown hK hP 0 rfl rfl 0 (by decide) (hts (.fieldLink RX11 12 "OilPush" "plant" "LOilPush$Plant;") (by decide +kernel)) (fun _ h => h) rfl dX11_pump_38 ?_
      refine va_get (D := g.1) (ci := 4) (v := .int gi) (C := RX4) (T := TX4) (N := 5) hx hb hts hi_X11_pump_X4 hown hK hP 1 rfl rfl 0 (by decide) (hts (.fieldLink RX11 77 "OilPush$Plant" "gives" "I") (by decide +kernel)) (fun _ h => h) rfl dX11_pump_41 ?_
      refine lv_goto (tgt := 54) hx hb dX11_pump_44 (by decide) ?_
      refine lv_istore_n (lv' := [(3, .int gi), (0, .ref h0), (1, .int what), (2, .int v)]) hx hb dX11_pump_54 rfl hl (by decide) rfl (fun ls hl => ?_)
      refine lv_iload_n hx hb dX11_pump_55 rfl (lv_at hl 2 rfl) ?_
      refine lv_if_ne (tgt := 70) hx hb dX11_pump_56 (by decide) (fun cc0 => absurd c1 cc0) (fun _ => ?_)
      refine lv_aload_n hx hb dX11_pump_59 rfl (lv_at hl 1 rfl) ?_
      refine va_get (D := g.1) (ci := 11) (v := .ref a0) (C := RX11) (T := TX11) (N := 15) hx hb hts hi_X11_pump_X11 hown hK hP 0 rfl rfl 0 (by decide) (hts (.fieldLink RX11 12 "OilPush" "plant" "LOilPush$Plant;") (by decide +kernel)) (fun _ h => h) rfl dX11_pump_60 ?_
      refine lv_iload_n hx hb dX11_pump_63 rfl (lv_at hl 3 rfl) ?_
      refine va_put (D := g.1) (ci := 4) (v := .int v) (ty := .int) (C := RX4) (T := TX4) (N := 5) hx hb hts hi_X11_pump_X4 tyX4 tyX4_ok nmX4 hown hK hP hD hS 1 rfl rfl 0 (by decide) (hts (.fieldLink RX11 77 "OilPush$Plant" "gives" "I") (by decide +kernel)) (fun _ h => h) rfl (by decide +kernel) rfl rfl (Nat.le_of_ble_eq_true rfl) dX11_pump_64 (fun H locs hP hD hS => ?_)
      have hP : va_P g.1 vwCl [(h0, .inr (11, [.ref a0, .ref a1, .ref a2, .ref a3, .ref a4, .ref a5, .ref a6, .ref a7, .ref a8, .ref a9, .ref a10, .int 0, .int 0, .int 0, .int 0])), (a0, .inr (4, [.int v, .int li, .ref b2, .int 0, .ref b4]))] H := hP
      have hD : va_D A [(h0, .inr (11, [.ref a0, .ref a1, .ref a2, .ref a3, .ref a4, .ref a5, .ref a6, .ref a7, .ref a8, .ref a9, .ref a10, .int 0, .int 0, .int 0, .int 0])), (a0, .inr (4, [.int v, .int li, .ref b2, .int 0, .ref b4]))] := hD
      refine lv_goto (tgt := 78) hx hb dX11_pump_67 (by decide) ?_
      refine lv_iload_n hx hb dX11_pump_78 rfl (lv_at hl 0 rfl) ?_
      exact retI C hS () (by unfold r_x_pump; rw [if_pos c1, if_neg c2]) (hP.pick [] rfl) (hD.sub [] rfl rfl) (Nat.le_of_ble_eq_true rfl) (Nat.le_of_ble_eq_true rfl) dX11_pump_79
    refine lv_bipush (v := -2) hx hb dX11_pump_30 (by decide) ?_
    exact retI C hS () (by unfold r_x_pump; rw [if_pos c1, if_pos c2]) (hP.pick [] rfl) (hD.sub [] rfl rfl) (Nat.le_of_ble_eq_true rfl) (Nat.le_of_ble_eq_true rfl) dX11_pump_32
  refine lv_iload_n hx hb dX11_pump_4 rfl (lv_at hl 1 rfl) ?_
  refine lv_iconst (v := 1) hx hb dX11_pump_5 (by decide) ?_
  refine lv_icmp_eq (tgt := 11) hx hb dX11_pump_6 (by decide) (fun c3 => ?_) (fun c3 => ?_)
  · refine lv_iload_n hx hb dX11_pump_11 rfl (lv_at hl 2 rfl) ?_
    refine lv_iload_n hx hb dX11_pump_12 rfl (lv_at hl 1 rfl) ?_
    refine lv_if_ne (tgt := 20) hx hb dX11_pump_13 (by decide) (fun _ => ?_) (fun cc0 => absurd cc0 c1)
    refine lv_iconst (v := 1) hx hb dX11_pump_20 (by decide) ?_
    refine lv_sipush (v := 1000) hx hb dX11_pump_21 (by decide) ?_
    refine pureIS (As := [.int v, .int 1, .int 1000]) (rest := []) F (c_within l v 1 1000) 3 gX11_pump_X11_within rfl (by decide +kernel) rfl rfl ⟨(Nat.le_of_ble_eq_true rfl), (Nat.le_of_ble_eq_true rfl)⟩ (Nat.le_of_ble_eq_true rfl) (Nat.le_of_ble_eq_true rfl) rfl hl.1 rfl (Nat.le_of_ble_eq_true rfl) dX11_pump_24 ?_
    refine lv_if_ne (tgt := 33) hx hb dX11_pump_27 (by decide) (fun c4 => ?_) (fun c4 => ?_)
    · refine lv_iload_n hx hb dX11_pump_33 rfl (lv_at hl 1 rfl) ?_
      refine lv_if_ne (tgt := 47) hx hb dX11_pump_34 (by decide) (fun _ => ?_) (fun cc0 => absurd cc0 c1)
      refine lv_aload_n hx hb dX11_pump_47 rfl (lv_at hl 0 rfl) ?_
      refine va_get (D := g.1) (ci := 11) (v := .ref a0) (C := RX11) (T := TX11) (N := 15) hx hb hts hi_X11_pump_X11 hown hK hP 0 rfl rfl 0 (by decide) (hts (.fieldLink RX11 12 "OilPush" "plant" "LOilPush$Plant;") (by decide +kernel)) (fun _ h => h) rfl dX11_pump_48 ?_
      refine va_get (D := g.1) (ci := 4) (v := .int li) (C := RX4) (T := TX4) (N := 5) hx hb hts hi_X11_pump_X4 hown hK hP 1 rfl rfl 1 (by decide) (hts (.fieldLink RX11 81 "OilPush$Plant" "limit" "I") (by decide +kernel)) (fun _ h => h) rfl dX11_pump_51 ?_
      refine lv_istore_n (lv' := [(3, .int li), (0, .ref h0), (1, .int what), (2, .int v)]) hx hb dX11_pump_54 rfl hl (by decide) rfl (fun ls hl => ?_)
      refine lv_iload_n hx hb dX11_pump_55 rfl (lv_at hl 2 rfl) ?_
      refine lv_if_ne (tgt := 70) hx hb dX11_pump_56 (by decide) (fun _ => ?_) (fun cc0 => absurd cc0 c1)
      refine lv_aload_n hx hb dX11_pump_70 rfl (lv_at hl 1 rfl) ?_
      refine va_get (D := g.1) (ci := 11) (v := .ref a0) (C := RX11) (T := TX11) (N := 15) hx hb hts hi_X11_pump_X11 hown hK hP 0 rfl rfl 0 (by decide) (hts (.fieldLink RX11 12 "OilPush" "plant" "LOilPush$Plant;") (by decide +kernel)) (fun _ h => h) rfl dX11_pump_71 ?_
      refine lv_iload_n hx hb dX11_pump_74 rfl (lv_at hl 3 rfl) ?_
      refine va_put (D := g.1) (ci := 4) (v := .int v) (ty := .int) (C := RX4) (T := TX4) (N := 5) hx hb hts hi_X11_pump_X4 tyX4 tyX4_ok nmX4 hown hK hP hD hS 1 rfl rfl 1 (by decide) (hts (.fieldLink RX11 81 "OilPush$Plant" "limit" "I") (by decide +kernel)) (fun _ h => h) rfl (by decide +kernel) rfl rfl (Nat.le_of_ble_eq_true rfl) dX11_pump_75 (fun H locs hP hD hS => ?_)
      have hP : va_P g.1 vwCl [(h0, .inr (11, [.ref a0, .ref a1, .ref a2, .ref a3, .ref a4, .ref a5, .ref a6, .ref a7, .ref a8, .ref a9, .ref a10, .int 0, .int 0, .int 0, .int 0])), (a0, .inr (4, [.int gi, .int v, .ref b2, .int 0, .ref b4]))] H := hP
      have hD : va_D A [(h0, .inr (11, [.ref a0, .ref a1, .ref a2, .ref a3, .ref a4, .ref a5, .ref a6, .ref a7, .ref a8, .ref a9, .ref a10, .int 0, .int 0, .int 0, .int 0])), (a0, .inr (4, [.int gi, .int v, .ref b2, .int 0, .ref b4]))] := hD
      refine lv_iload_n hx hb dX11_pump_78 rfl (lv_at hl 0 rfl) ?_
      exact retI C hS () (by unfold r_x_pump; rw [if_neg c1, if_pos c3, if_neg c4]) (hP.pick [] rfl) (hD.sub [] rfl rfl) (Nat.le_of_ble_eq_true rfl) (Nat.le_of_ble_eq_true rfl) dX11_pump_79
    refine lv_bipush (v := -2) hx hb dX11_pump_30 (by decide) ?_
    exact retI C hS () (by unfold r_x_pump; rw [if_neg c1, if_pos c3, if_pos c4]) (hP.pick [] rfl) (hD.sub [] rfl rfl) (Nat.le_of_ble_eq_true rfl) (Nat.le_of_ble_eq_true rfl) dX11_pump_32
  refine lv_iconst (v := -1) hx hb dX11_pump_9 (by decide) ?_
  exact retI C hS () (by unfold r_x_pump; rw [if_neg c1, if_neg c3]) (hP.pick [] rfl) (hD.sub [] rfl rfl) (Nat.le_of_ble_eq_true rfl) (Nat.le_of_ble_eq_true rfl) dX11_pump_10
theorem hi_X11_rule_X11 : ∀ w ∈ wsX110, w ∈ wsX11_rule := fun w h => List.mem_cons_of_mem _ (List.mem_append_left _ (List.mem_append_left _ (List.mem_append_left _ (List.mem_append_left _ (List.mem_append_right _ h)))))
set_option maxRecDepth 100000 in
set_option maxHeartbeats 4000000 in
theorem x_rule (l : Launch) (g : Gt) (h0 : Nat) (a0 : Nat) (a1 : Nat) (a2 : Nat) (a3 : Nat) (a4 : Nat) (a5 : Nat) (a6 : Nat) (a7 : Nat) (a8 : Nat) (a9 : Nat) (a10 : Nat) (b2 : Nat) (b4 : Nat) (x1 : Int32) (x2 : Int32) (x3 : Int32)  : Ctr l g yX11_rule wsX11_rule ({ frames := 1, cells := 0, slots := 0, locals := 21 } : Room) [.ref h0, .int x1, .int x2, .int x3] [(h0, .inr (11, [.ref a0, .ref a1, .ref a2, .ref a3, .ref a4, .ref a5, .ref a6, .ref a7, .ref a8, .ref a9, .ref a10, .int 0, .int 0, .int 0, .int 0])), (a0, .inr (4, [.int 0, .int 100, .ref b2, .int 0, .ref b4]))] (fun A => QI g A (fun r (_ : Unit) => r = (-1)) (fun _u : Unit => [])) := by
  refine Ctr.of (cc := cX11_rule) (maxL := 5) (ret := (some .int)) (by decide) rfl (Nat.le_of_ble_eq_true rfl) ?_
  intro p e s m below meth c A ls H C hP hD hA hS hl
  obtain ⟨hx, hb, hr, hts, hown, hlocks, hml, hin, hKN⟩ := id C
  have hK := hKN.1
  have hN := hKN.2
  have F : CallFix p m c cX11_rule 5 s _ wsX11_rule yX11_rule.cls := ⟨hx, hb, hml, hown, hts⟩
  have hl : lv_has ls 5 [(0, .ref h0), (1, .int x1), (2, .int x2), (3, .int x3)] := hl
  refine lv_aload_n hx hb dX11_rule_0 rfl (lv_at hl 0 rfl) ?_
  refine va_get (D := g.1) (ci := 11) (v := .ref a0) (C := RX11) (T := TX11) (N := 15) hx hb hts hi_X11_rule_X11 hown hK hP 0 rfl rfl 0 (by decide) (hts (.fieldLink RX11 12 "OilPush" "plant" "LOilPush$Plant;") (by decide +kernel)) (fun _ h => h) rfl dX11_rule_1 ?_
  refine lv_iload_n hx hb dX11_rule_4 rfl (lv_at hl 1 rfl) ?_
  refine callQV (As := [.int x1]) (rest := []) (wr := [(h0, .inr (11, [.ref a0, .ref a1, .ref a2, .ref a3, .ref a4, .ref a5, .ref a6, .ref a7, .ref a8, .ref a9, .ref a10, .int 0, .int 0, .int 0, .int 0]))]) (Cn := RX4) C (c_at l g a0 0 100 b2 b4 x1) 1 gX11_rule_X4_at rfl (by decide +kernel) ⟨(Nat.le_of_ble_eq_true rfl), (Nat.le_of_ble_eq_true rfl)⟩ [1] [0] hP hD hA hS rfl rfl rfl rfl (by decide) (k := 1) (ci := 4) rfl rfl rfl rfl hl.1 rfl (Nat.le_of_ble_eq_true rfl) dX11_rule_5 ⟨(Nat.le_of_ble_eq_true rfl), (Nat.le_of_ble_eq_true rfl)⟩ (fun r _u H locs hw hP hD hS => ?_)
  have hP : va_P g.1 vwCl [(h0, .inr (11, [.ref a0, .ref a1, .ref a2, .ref a3, .ref a4, .ref a5, .ref a6, .ref a7, .ref a8, .ref a9, .ref a10, .int 0, .int 0, .int 0, .int 0])), (a0, .inr (4, [.int 0, .int 100, .ref b2, .int 0, .ref b4]))] H := hP
  have hD : va_D A [(h0, .inr (11, [.ref a0, .ref a1, .ref a2, .ref a3, .ref a4, .ref a5, .ref a6, .ref a7, .ref a8, .ref a9, .ref a10, .int 0, .int 0, .int 0, .int 0])), (a0, .inr (4, [.int 0, .int 100, .ref b2, .int 0, .ref b4]))] := hD
  subst hw
  refine nx_v (v := .null) rfl ?_
  refine lv_astoreN (lv' := [(4, .null), (0, .ref h0), (1, .int x1), (2, .int x2), (3, .int x3)]) hx hb dX11_rule_8 hl (by decide) rfl (fun ls hl => ?_)
  refine lv_aloadN hx hb dX11_rule_10 (lv_at hl 0 rfl) ?_
  refine lv_ifnullN (tgt := 24) hx hb dX11_rule_12 (by decide) ?_
  refine lv_iconst (v := -1) hx hb dX11_rule_24 (by decide) ?_
  exact retI C hS () rfl (hP.pick [] rfl) (hD.sub [] rfl rfl) (Nat.le_of_ble_eq_true rfl) (Nat.le_of_ble_eq_true rfl) dX11_rule_25
theorem hi_X11_valve_X11 : ∀ w ∈ wsX110, w ∈ wsX11_valve := fun w h => List.mem_cons_of_mem _ (List.mem_append_left _ (List.mem_append_left _ (List.mem_append_right _ h)))
set_option maxRecDepth 100000 in
set_option maxHeartbeats 4000000 in
theorem x_valve (l : Launch) (g : Gt) (h0 : Nat) (a0 : Nat) (a1 : Nat) (a2 : Nat) (a3 : Nat) (a4 : Nat) (a5 : Nat) (a6 : Nat) (a7 : Nat) (a8 : Nat) (a9 : Nat) (a10 : Nat) (b2 : Nat) (b4 : Nat) (x1 : Int32) (x2 : Int32)  : Ctr l g yX11_valve wsX11_valve ({ frames := 1, cells := 0, slots := 0, locals := 21 } : Room) [.ref h0, .int x1, .int x2] [(h0, .inr (11, [.ref a0, .ref a1, .ref a2, .ref a3, .ref a4, .ref a5, .ref a6, .ref a7, .ref a8, .ref a9, .ref a10, .int 0, .int 0, .int 0, .int 0])), (a0, .inr (4, [.int 0, .int 100, .ref b2, .int 0, .ref b4]))] (fun A => QI g A (fun r (_ : Unit) => r = (-1)) (fun _u : Unit => [])) := by
  refine Ctr.of (cc := cX11_valve) (maxL := 3) (ret := (some .int)) (by decide) rfl (Nat.le_of_ble_eq_true rfl) ?_
  intro p e s m below meth c A ls H C hP hD hA hS hl
  obtain ⟨hx, hb, hr, hts, hown, hlocks, hml, hin, hKN⟩ := id C
  have hK := hKN.1
  have hN := hKN.2
  have F : CallFix p m c cX11_valve 3 s _ wsX11_valve yX11_valve.cls := ⟨hx, hb, hml, hown, hts⟩
  have hl : lv_has ls 3 [(0, .ref h0), (1, .int x1), (2, .int x2)] := hl
  refine lv_aload_n hx hb dX11_valve_0 rfl (lv_at hl 0 rfl) ?_
  refine va_get (D := g.1) (ci := 11) (v := .ref a0) (C := RX11) (T := TX11) (N := 15) hx hb hts hi_X11_valve_X11 hown hK hP 0 rfl rfl 0 (by decide) (hts (.fieldLink RX11 12 "OilPush" "plant" "LOilPush$Plant;") (by decide +kernel)) (fun _ h => h) rfl dX11_valve_1 ?_
  refine lv_iload_n hx hb dX11_valve_4 rfl (lv_at hl 1 rfl) ?_
  refine callQV (As := [.int x1]) (rest := []) (wr := [(h0, .inr (11, [.ref a0, .ref a1, .ref a2, .ref a3, .ref a4, .ref a5, .ref a6, .ref a7, .ref a8, .ref a9, .ref a10, .int 0, .int 0, .int 0, .int 0]))]) (Cn := RX4) C (c_at l g a0 0 100 b2 b4 x1) 1 gX11_valve_X4_at rfl (by decide +kernel) ⟨(Nat.le_of_ble_eq_true rfl), (Nat.le_of_ble_eq_true rfl)⟩ [1] [0] hP hD hA hS rfl rfl rfl rfl (by decide) (k := 1) (ci := 4) rfl rfl rfl rfl hl.1 rfl (Nat.le_of_ble_eq_true rfl) dX11_valve_5 ⟨(Nat.le_of_ble_eq_true rfl), (Nat.le_of_ble_eq_true rfl)⟩ (fun r _u H locs hw hP hD hS => ?_)
  have hP : va_P g.1 vwCl [(h0, .inr (11, [.ref a0, .ref a1, .ref a2, .ref a3, .ref a4, .ref a5, .ref a6, .ref a7, .ref a8, .ref a9, .ref a10, .int 0, .int 0, .int 0, .int 0])), (a0, .inr (4, [.int 0, .int 100, .ref b2, .int 0, .ref b4]))] H := hP
  have hD : va_D A [(h0, .inr (11, [.ref a0, .ref a1, .ref a2, .ref a3, .ref a4, .ref a5, .ref a6, .ref a7, .ref a8, .ref a9, .ref a10, .int 0, .int 0, .int 0, .int 0])), (a0, .inr (4, [.int 0, .int 100, .ref b2, .int 0, .ref b4]))] := hD
  subst hw
  refine nx_v (v := .null) rfl ?_
  refine lv_ifnonnullN hx hb dX11_valve_8 ?_
  refine lv_iconst (v := -1) hx hb dX11_valve_11 (by decide) ?_
  exact retI C hS () rfl (hP.pick [] rfl) (hD.sub [] rfl rfl) (Nat.le_of_ble_eq_true rfl) (Nat.le_of_ble_eq_true rfl) dX11_valve_12
theorem hi_X11_fill_X11 : ∀ w ∈ wsX110, w ∈ wsX11_fill := fun w h => List.mem_cons_of_mem _ (List.mem_append_left _ (List.mem_append_left _ (List.mem_append_left _ (List.mem_append_left _ (List.mem_append_left _ (List.mem_append_right _ h))))))
set_option maxRecDepth 100000 in
set_option maxHeartbeats 4000000 in
theorem x_fill (l : Launch) (g : Gt) (h0 : Nat) (a0 : Nat) (a1 : Nat) (a2 : Nat) (a3 : Nat) (a4 : Nat) (a5 : Nat) (a6 : Nat) (a7 : Nat) (a8 : Nat) (a9 : Nat) (a10 : Nat) (b2 : Nat) (b4 : Nat) (x1 : Int32) (x2 : Int32)  : Ctr l g yX11_fill wsX11_fill ({ frames := 1, cells := 0, slots := 0, locals := 21 } : Room) [.ref h0, .int x1, .int x2] [(h0, .inr (11, [.ref a0, .ref a1, .ref a2, .ref a3, .ref a4, .ref a5, .ref a6, .ref a7, .ref a8, .ref a9, .ref a10, .int 0, .int 0, .int 0, .int 0])), (a0, .inr (4, [.int 0, .int 100, .ref b2, .int 0, .ref b4]))] (fun A => QI g A (fun r (_ : Unit) => r = (-1)) (fun _u : Unit => [])) := by
  refine Ctr.of (cc := cX11_fill) (maxL := 4) (ret := (some .int)) (by decide) rfl (Nat.le_of_ble_eq_true rfl) ?_
  intro p e s m below meth c A ls H C hP hD hA hS hl
  obtain ⟨hx, hb, hr, hts, hown, hlocks, hml, hin, hKN⟩ := id C
  have hK := hKN.1
  have hN := hKN.2
  have F : CallFix p m c cX11_fill 4 s _ wsX11_fill yX11_fill.cls := ⟨hx, hb, hml, hown, hts⟩
  have hl : lv_has ls 4 [(0, .ref h0), (1, .int x1), (2, .int x2)] := hl
  refine lv_aload_n hx hb dX11_fill_0 rfl (lv_at hl 0 rfl) ?_
  refine va_get (D := g.1) (ci := 11) (v := .ref a0) (C := RX11) (T := TX11) (N := 15) hx hb hts hi_X11_fill_X11 hown hK hP 0 rfl rfl 0 (by decide) (hts (.fieldLink RX11 12 "OilPush" "plant" "LOilPush$Plant;") (by decide +kernel)) (fun _ h => h) rfl dX11_fill_1 ?_
  refine lv_iload_n hx hb dX11_fill_4 rfl (lv_at hl 1 rfl) ?_
  refine callQV (As := [.int x1]) (rest := []) (wr := [(h0, .inr (11, [.ref a0, .ref a1, .ref a2, .ref a3, .ref a4, .ref a5, .ref a6, .ref a7, .ref a8, .ref a9, .ref a10, .int 0, .int 0, .int 0, .int 0]))]) (Cn := RX4) C (c_at l g a0 0 100 b2 b4 x1) 1 gX11_fill_X4_at rfl (by decide +kernel) ⟨(Nat.le_of_ble_eq_true rfl), (Nat.le_of_ble_eq_true rfl)⟩ [1] [0] hP hD hA hS rfl rfl rfl rfl (by decide) (k := 1) (ci := 4) rfl rfl rfl rfl hl.1 rfl (Nat.le_of_ble_eq_true rfl) dX11_fill_5 ⟨(Nat.le_of_ble_eq_true rfl), (Nat.le_of_ble_eq_true rfl)⟩ (fun r _u H locs hw hP hD hS => ?_)
  have hP : va_P g.1 vwCl [(h0, .inr (11, [.ref a0, .ref a1, .ref a2, .ref a3, .ref a4, .ref a5, .ref a6, .ref a7, .ref a8, .ref a9, .ref a10, .int 0, .int 0, .int 0, .int 0])), (a0, .inr (4, [.int 0, .int 100, .ref b2, .int 0, .ref b4]))] H := hP
  have hD : va_D A [(h0, .inr (11, [.ref a0, .ref a1, .ref a2, .ref a3, .ref a4, .ref a5, .ref a6, .ref a7, .ref a8, .ref a9, .ref a10, .int 0, .int 0, .int 0, .int 0])), (a0, .inr (4, [.int 0, .int 100, .ref b2, .int 0, .ref b4]))] := hD
  subst hw
  refine nx_v (v := .null) rfl ?_
  refine lv_astore_nN (lv' := [(3, .null), (0, .ref h0), (1, .int x1), (2, .int x2)]) hx hb dX11_fill_8 rfl hl (by decide) rfl (fun ls hl => ?_)
  refine lv_aload_nN hx hb dX11_fill_9 rfl (lv_at hl 0 rfl) ?_
  refine lv_ifnonnullN hx hb dX11_fill_10 ?_
  refine lv_iconst (v := -1) hx hb dX11_fill_13 (by decide) ?_
  exact retI C hS () rfl (hP.pick [] rfl) (hD.sub [] rfl rfl) (Nat.le_of_ble_eq_true rfl) (Nat.le_of_ble_eq_true rfl) dX11_fill_14
theorem hi_X11_burst_X11 : ∀ w ∈ wsX110, w ∈ wsX11_burst := fun w h => List.mem_cons_of_mem _ (List.mem_append_left _ (List.mem_append_left _ (List.mem_append_right _ h)))
set_option maxRecDepth 100000 in
set_option maxHeartbeats 4000000 in
theorem x_burst (l : Launch) (g : Gt) (h0 : Nat) (a0 : Nat) (a1 : Nat) (a2 : Nat) (a3 : Nat) (a4 : Nat) (a5 : Nat) (a6 : Nat) (a7 : Nat) (a8 : Nat) (a9 : Nat) (a10 : Nat) (b2 : Nat) (b4 : Nat) (x1 : Int32) (x2 : Int32)  : Ctr l g yX11_burst wsX11_burst ({ frames := 1, cells := 0, slots := 0, locals := 21 } : Room) [.ref h0, .int x1, .int x2] [(h0, .inr (11, [.ref a0, .ref a1, .ref a2, .ref a3, .ref a4, .ref a5, .ref a6, .ref a7, .ref a8, .ref a9, .ref a10, .int 0, .int 0, .int 0, .int 0])), (a0, .inr (4, [.int 0, .int 100, .ref b2, .int 0, .ref b4]))] (fun A => QI g A (fun r (_ : Unit) => r = (-1)) (fun _u : Unit => [])) := by
  refine Ctr.of (cc := cX11_burst) (maxL := 4) (ret := (some .int)) (by decide) rfl (Nat.le_of_ble_eq_true rfl) ?_
  intro p e s m below meth c A ls H C hP hD hA hS hl
  obtain ⟨hx, hb, hr, hts, hown, hlocks, hml, hin, hKN⟩ := id C
  have hK := hKN.1
  have hN := hKN.2
  have F : CallFix p m c cX11_burst 4 s _ wsX11_burst yX11_burst.cls := ⟨hx, hb, hml, hown, hts⟩
  have hl : lv_has ls 4 [(0, .ref h0), (1, .int x1), (2, .int x2)] := hl
  refine lv_aload_n hx hb dX11_burst_0 rfl (lv_at hl 0 rfl) ?_
  refine va_get (D := g.1) (ci := 11) (v := .ref a0) (C := RX11) (T := TX11) (N := 15) hx hb hts hi_X11_burst_X11 hown hK hP 0 rfl rfl 0 (by decide) (hts (.fieldLink RX11 12 "OilPush" "plant" "LOilPush$Plant;") (by decide +kernel)) (fun _ h => h) rfl dX11_burst_1 ?_
  refine lv_iload_n hx hb dX11_burst_4 rfl (lv_at hl 1 rfl) ?_
  refine callQV (As := [.int x1]) (rest := []) (wr := [(h0, .inr (11, [.ref a0, .ref a1, .ref a2, .ref a3, .ref a4, .ref a5, .ref a6, .ref a7, .ref a8, .ref a9, .ref a10, .int 0, .int 0, .int 0, .int 0]))]) (Cn := RX4) C (c_at l g a0 0 100 b2 b4 x1) 1 gX11_burst_X4_at rfl (by decide +kernel) ⟨(Nat.le_of_ble_eq_true rfl), (Nat.le_of_ble_eq_true rfl)⟩ [1] [0] hP hD hA hS rfl rfl rfl rfl (by decide) (k := 1) (ci := 4) rfl rfl rfl rfl hl.1 rfl (Nat.le_of_ble_eq_true rfl) dX11_burst_5 ⟨(Nat.le_of_ble_eq_true rfl), (Nat.le_of_ble_eq_true rfl)⟩ (fun r _u H locs hw hP hD hS => ?_)
  have hP : va_P g.1 vwCl [(h0, .inr (11, [.ref a0, .ref a1, .ref a2, .ref a3, .ref a4, .ref a5, .ref a6, .ref a7, .ref a8, .ref a9, .ref a10, .int 0, .int 0, .int 0, .int 0])), (a0, .inr (4, [.int 0, .int 100, .ref b2, .int 0, .ref b4]))] H := hP
  have hD : va_D A [(h0, .inr (11, [.ref a0, .ref a1, .ref a2, .ref a3, .ref a4, .ref a5, .ref a6, .ref a7, .ref a8, .ref a9, .ref a10, .int 0, .int 0, .int 0, .int 0])), (a0, .inr (4, [.int 0, .int 100, .ref b2, .int 0, .ref b4]))] := hD
  subst hw
  refine nx_v (v := .null) rfl ?_
  refine lv_ifnonnullN hx hb dX11_burst_8 ?_
  refine lv_iconst (v := -1) hx hb dX11_burst_11 (by decide) ?_
  exact retI C hS () rfl (hP.pick [] rfl) (hD.sub [] rfl rfl) (Nat.le_of_ble_eq_true rfl) (Nat.le_of_ble_eq_true rfl) dX11_burst_12
theorem hi_X11_about_X11 : ∀ w ∈ wsX110, w ∈ wsX11_about := fun w h => List.mem_cons_of_mem _ (List.mem_append_left _ (List.mem_append_left _ (List.mem_append_left _ (List.mem_append_left _ (List.mem_append_left _ (List.mem_append_left _ (List.mem_append_right _ h)))))))
set_option maxRecDepth 100000 in
set_option maxHeartbeats 4000000 in
theorem x_about (l : Launch) (g : Gt) (h0 : Nat) (a0 : Nat) (a1 : Nat) (a2 : Nat) (a3 : Nat) (a4 : Nat) (a5 : Nat) (a6 : Nat) (a7 : Nat) (a8 : Nat) (a9 : Nat) (a10 : Nat) (b2 : Nat) (b4 : Nat) (x1 : Int32) (x2 : Int32)  : Ctr l g yX11_about wsX11_about ({ frames := 1, cells := 0, slots := 0, locals := 21 } : Room) [.ref h0, .int x1, .int x2] [(h0, .inr (11, [.ref a0, .ref a1, .ref a2, .ref a3, .ref a4, .ref a5, .ref a6, .ref a7, .ref a8, .ref a9, .ref a10, .int 0, .int 0, .int 0, .int 0])), (a0, .inr (4, [.int 0, .int 100, .ref b2, .int 0, .ref b4]))] (fun A => QI g A (fun r (_ : Unit) => r = (-1)) (fun _u : Unit => [])) := by
  refine Ctr.of (cc := cX11_about) (maxL := 4) (ret := (some .int)) (by decide) rfl (Nat.le_of_ble_eq_true rfl) ?_
  intro p e s m below meth c A ls H C hP hD hA hS hl
  obtain ⟨hx, hb, hr, hts, hown, hlocks, hml, hin, hKN⟩ := id C
  have hK := hKN.1
  have hN := hKN.2
  have F : CallFix p m c cX11_about 4 s _ wsX11_about yX11_about.cls := ⟨hx, hb, hml, hown, hts⟩
  have hl : lv_has ls 4 [(0, .ref h0), (1, .int x1), (2, .int x2)] := hl
  refine lv_aload_n hx hb dX11_about_0 rfl (lv_at hl 0 rfl) ?_
  refine va_get (D := g.1) (ci := 11) (v := .ref a0) (C := RX11) (T := TX11) (N := 15) hx hb hts hi_X11_about_X11 hown hK hP 0 rfl rfl 0 (by decide) (hts (.fieldLink RX11 12 "OilPush" "plant" "LOilPush$Plant;") (by decide +kernel)) (fun _ h => h) rfl dX11_about_1 ?_
  refine lv_iload_n hx hb dX11_about_4 rfl (lv_at hl 1 rfl) ?_
  refine callQV (As := [.int x1]) (rest := []) (wr := [(h0, .inr (11, [.ref a0, .ref a1, .ref a2, .ref a3, .ref a4, .ref a5, .ref a6, .ref a7, .ref a8, .ref a9, .ref a10, .int 0, .int 0, .int 0, .int 0]))]) (Cn := RX4) C (c_at l g a0 0 100 b2 b4 x1) 1 gX11_about_X4_at rfl (by decide +kernel) ⟨(Nat.le_of_ble_eq_true rfl), (Nat.le_of_ble_eq_true rfl)⟩ [1] [0] hP hD hA hS rfl rfl rfl rfl (by decide) (k := 1) (ci := 4) rfl rfl rfl rfl hl.1 rfl (Nat.le_of_ble_eq_true rfl) dX11_about_5 ⟨(Nat.le_of_ble_eq_true rfl), (Nat.le_of_ble_eq_true rfl)⟩ (fun r _u H locs hw hP hD hS => ?_)
  have hP : va_P g.1 vwCl [(h0, .inr (11, [.ref a0, .ref a1, .ref a2, .ref a3, .ref a4, .ref a5, .ref a6, .ref a7, .ref a8, .ref a9, .ref a10, .int 0, .int 0, .int 0, .int 0])), (a0, .inr (4, [.int 0, .int 100, .ref b2, .int 0, .ref b4]))] H := hP
  have hD : va_D A [(h0, .inr (11, [.ref a0, .ref a1, .ref a2, .ref a3, .ref a4, .ref a5, .ref a6, .ref a7, .ref a8, .ref a9, .ref a10, .int 0, .int 0, .int 0, .int 0])), (a0, .inr (4, [.int 0, .int 100, .ref b2, .int 0, .ref b4]))] := hD
  subst hw
  refine nx_v (v := .null) rfl ?_
  refine lv_astore_nN (lv' := [(3, .null), (0, .ref h0), (1, .int x1), (2, .int x2)]) hx hb dX11_about_8 rfl hl (by decide) rfl (fun ls hl => ?_)
  refine lv_aload_nN hx hb dX11_about_9 rfl (lv_at hl 0 rfl) ?_
  refine lv_ifnonnullN hx hb dX11_about_10 ?_
  refine lv_iconst (v := -1) hx hb dX11_about_13 (by decide) ?_
  exact retI C hS () rfl (hP.pick [] rfl) (hD.sub [] rfl rfl) (Nat.le_of_ble_eq_true rfl) (Nat.le_of_ble_eq_true rfl) dX11_about_14
theorem hi_X11_order_X11 : ∀ w ∈ wsX110, w ∈ wsX11_order := fun w h => List.mem_cons_of_mem _ (List.mem_append_left _ (List.mem_append_left _ (List.mem_append_right _ h)))
set_option maxRecDepth 100000 in
set_option maxHeartbeats 4000000 in
theorem x_order (l : Launch) (g : Gt) (h0 : Nat) (a0 : Nat) (a1 : Nat) (a2 : Nat) (a3 : Nat) (a4 : Nat) (a5 : Nat) (a6 : Nat) (a7 : Nat) (a8 : Nat) (a9 : Nat) (a10 : Nat) (b2 : Nat) (b4 : Nat) (x1 : Int32) (x2 : Int32) (x3 : Int32) (x4 : Int32)  : Ctr l g yX11_order wsX11_order ({ frames := 1, cells := 0, slots := 0, locals := 21 } : Room) [.ref h0, .int x1, .int x2, .int x3, .int x4] [(h0, .inr (11, [.ref a0, .ref a1, .ref a2, .ref a3, .ref a4, .ref a5, .ref a6, .ref a7, .ref a8, .ref a9, .ref a10, .int 0, .int 0, .int 0, .int 0])), (a0, .inr (4, [.int 0, .int 100, .ref b2, .int 0, .ref b4]))] (fun A => QI g A (fun r (_ : Unit) => r = (-1)) (fun _u : Unit => [])) := by
  refine Ctr.of (cc := cX11_order) (maxL := 5) (ret := (some .int)) (by decide) rfl (Nat.le_of_ble_eq_true rfl) ?_
  intro p e s m below meth c A ls H C hP hD hA hS hl
  obtain ⟨hx, hb, hr, hts, hown, hlocks, hml, hin, hKN⟩ := id C
  have hK := hKN.1
  have hN := hKN.2
  have F : CallFix p m c cX11_order 5 s _ wsX11_order yX11_order.cls := ⟨hx, hb, hml, hown, hts⟩
  have hl : lv_has ls 5 [(0, .ref h0), (1, .int x1), (2, .int x2), (3, .int x3), (4, .int x4)] := hl
  refine lv_aload_n hx hb dX11_order_0 rfl (lv_at hl 0 rfl) ?_
  refine va_get (D := g.1) (ci := 11) (v := .ref a0) (C := RX11) (T := TX11) (N := 15) hx hb hts hi_X11_order_X11 hown hK hP 0 rfl rfl 0 (by decide) (hts (.fieldLink RX11 12 "OilPush" "plant" "LOilPush$Plant;") (by decide +kernel)) (fun _ h => h) rfl dX11_order_1 ?_
  refine lv_iload_n hx hb dX11_order_4 rfl (lv_at hl 1 rfl) ?_
  refine callQV (As := [.int x1]) (rest := []) (wr := [(h0, .inr (11, [.ref a0, .ref a1, .ref a2, .ref a3, .ref a4, .ref a5, .ref a6, .ref a7, .ref a8, .ref a9, .ref a10, .int 0, .int 0, .int 0, .int 0]))]) (Cn := RX4) C (c_at l g a0 0 100 b2 b4 x1) 1 gX11_order_X4_at rfl (by decide +kernel) ⟨(Nat.le_of_ble_eq_true rfl), (Nat.le_of_ble_eq_true rfl)⟩ [1] [0] hP hD hA hS rfl rfl rfl rfl (by decide) (k := 1) (ci := 4) rfl rfl rfl rfl hl.1 rfl (Nat.le_of_ble_eq_true rfl) dX11_order_5 ⟨(Nat.le_of_ble_eq_true rfl), (Nat.le_of_ble_eq_true rfl)⟩ (fun r _u H locs hw hP hD hS => ?_)
  have hP : va_P g.1 vwCl [(h0, .inr (11, [.ref a0, .ref a1, .ref a2, .ref a3, .ref a4, .ref a5, .ref a6, .ref a7, .ref a8, .ref a9, .ref a10, .int 0, .int 0, .int 0, .int 0])), (a0, .inr (4, [.int 0, .int 100, .ref b2, .int 0, .ref b4]))] H := hP
  have hD : va_D A [(h0, .inr (11, [.ref a0, .ref a1, .ref a2, .ref a3, .ref a4, .ref a5, .ref a6, .ref a7, .ref a8, .ref a9, .ref a10, .int 0, .int 0, .int 0, .int 0])), (a0, .inr (4, [.int 0, .int 100, .ref b2, .int 0, .ref b4]))] := hD
  subst hw
  refine nx_v (v := .null) rfl ?_
  refine lv_ifnullN (tgt := 22) hx hb dX11_order_8 (by decide) ?_
  refine lv_iconst (v := -1) hx hb dX11_order_22 (by decide) ?_
  exact retI C hS () rfl (hP.pick [] rfl) (hD.sub [] rfl rfl) (Nat.le_of_ble_eq_true rfl) (Nat.le_of_ble_eq_true rfl) dX11_order_23
theorem hi_X11_reading_X11 : ∀ w ∈ wsX110, w ∈ wsX11_reading := fun w h => List.mem_cons_of_mem _ (List.mem_append_left _ (List.mem_append_left _ (List.mem_append_left _ (List.mem_append_left _ (List.mem_append_left _ (List.mem_append_right _ h))))))
set_option maxRecDepth 100000 in
set_option maxHeartbeats 4000000 in
theorem x_reading (l : Launch) (g : Gt) (h0 : Nat) (a0 : Nat) (a1 : Nat) (a2 : Nat) (a3 : Nat) (a4 : Nat) (a5 : Nat) (a6 : Nat) (a7 : Nat) (a8 : Nat) (a9 : Nat) (a10 : Nat) (b2 : Nat) (b4 : Nat) (x1 : Int32) (x2 : Int32) (x3 : Int32)  : Ctr l g yX11_reading wsX11_reading ({ frames := 1, cells := 0, slots := 0, locals := 21 } : Room) [.ref h0, .int x1, .int x2, .int x3] [(h0, .inr (11, [.ref a0, .ref a1, .ref a2, .ref a3, .ref a4, .ref a5, .ref a6, .ref a7, .ref a8, .ref a9, .ref a10, .int 0, .int 0, .int 0, .int 0])), (a0, .inr (4, [.int 0, .int 100, .ref b2, .int 0, .ref b4]))] (fun A => QI g A (fun r (_ : Unit) => r = (-1)) (fun _u : Unit => [])) := by
  refine Ctr.of (cc := cX11_reading) (maxL := 5) (ret := (some .int)) (by decide) rfl (Nat.le_of_ble_eq_true rfl) ?_
  intro p e s m below meth c A ls H C hP hD hA hS hl
  obtain ⟨hx, hb, hr, hts, hown, hlocks, hml, hin, hKN⟩ := id C
  have hK := hKN.1
  have hN := hKN.2
  have F : CallFix p m c cX11_reading 5 s _ wsX11_reading yX11_reading.cls := ⟨hx, hb, hml, hown, hts⟩
  have hl : lv_has ls 5 [(0, .ref h0), (1, .int x1), (2, .int x2), (3, .int x3)] := hl
  refine lv_aload_n hx hb dX11_reading_0 rfl (lv_at hl 0 rfl) ?_
  refine va_get (D := g.1) (ci := 11) (v := .ref a0) (C := RX11) (T := TX11) (N := 15) hx hb hts hi_X11_reading_X11 hown hK hP 0 rfl rfl 0 (by decide) (hts (.fieldLink RX11 12 "OilPush" "plant" "LOilPush$Plant;") (by decide +kernel)) (fun _ h => h) rfl dX11_reading_1 ?_
  refine lv_iload_n hx hb dX11_reading_4 rfl (lv_at hl 2 rfl) ?_
  refine callQV (As := [.int x2]) (rest := []) (wr := [(h0, .inr (11, [.ref a0, .ref a1, .ref a2, .ref a3, .ref a4, .ref a5, .ref a6, .ref a7, .ref a8, .ref a9, .ref a10, .int 0, .int 0, .int 0, .int 0]))]) (Cn := RX4) C (c_at l g a0 0 100 b2 b4 x2) 1 gX11_reading_X4_at rfl (by decide +kernel) ⟨(Nat.le_of_ble_eq_true rfl), (Nat.le_of_ble_eq_true rfl)⟩ [1] [0] hP hD hA hS rfl rfl rfl rfl (by decide) (k := 1) (ci := 4) rfl rfl rfl rfl hl.1 rfl (Nat.le_of_ble_eq_true rfl) dX11_reading_5 ⟨(Nat.le_of_ble_eq_true rfl), (Nat.le_of_ble_eq_true rfl)⟩ (fun r _u H locs hw hP hD hS => ?_)
  have hP : va_P g.1 vwCl [(h0, .inr (11, [.ref a0, .ref a1, .ref a2, .ref a3, .ref a4, .ref a5, .ref a6, .ref a7, .ref a8, .ref a9, .ref a10, .int 0, .int 0, .int 0, .int 0])), (a0, .inr (4, [.int 0, .int 100, .ref b2, .int 0, .ref b4]))] H := hP
  have hD : va_D A [(h0, .inr (11, [.ref a0, .ref a1, .ref a2, .ref a3, .ref a4, .ref a5, .ref a6, .ref a7, .ref a8, .ref a9, .ref a10, .int 0, .int 0, .int 0, .int 0])), (a0, .inr (4, [.int 0, .int 100, .ref b2, .int 0, .ref b4]))] := hD
  subst hw
  refine nx_v (v := .null) rfl ?_
  refine lv_astoreN (lv' := [(4, .null), (0, .ref h0), (1, .int x1), (2, .int x2), (3, .int x3)]) hx hb dX11_reading_8 hl (by decide) rfl (fun ls hl => ?_)
  refine lv_aloadN hx hb dX11_reading_10 (lv_at hl 0 rfl) ?_
  refine lv_ifnonnullN hx hb dX11_reading_12 ?_
  refine lv_iconst (v := -1) hx hb dX11_reading_15 (by decide) ?_
  exact retI C hS () rfl (hP.pick [] rfl) (hD.sub [] rfl rfl) (Nat.le_of_ble_eq_true rfl) (Nat.le_of_ble_eq_true rfl) dX11_reading_16
theorem hi_X11_tell_X11 : ∀ w ∈ wsX110, w ∈ wsX11_tell := fun w h => List.mem_cons_of_mem _ (List.mem_append_left _ (List.mem_append_left _ (List.mem_append_left _ (List.mem_append_right _ h))))
set_option maxRecDepth 100000 in
set_option maxHeartbeats 4000000 in
theorem x_tell (l : Launch) (g : Gt) (h0 : Nat) (a0 : Nat) (a1 : Nat) (a2 : Nat) (a3 : Nat) (a4 : Nat) (a5 : Nat) (a6 : Nat) (a7 : Nat) (a8 : Nat) (a9 : Nat) (a10 : Nat) (b2 : Nat) (b4 : Nat) (x1 : Int32)  : Ctr l g yX11_tell wsX11_tell ({ frames := 1, cells := 0, slots := 0, locals := 21 } : Room) [.ref h0, .int x1] [(h0, .inr (11, [.ref a0, .ref a1, .ref a2, .ref a3, .ref a4, .ref a5, .ref a6, .ref a7, .ref a8, .ref a9, .ref a10, .int 0, .int 0, .int 0, .int 0])), (a0, .inr (4, [.int 0, .int 100, .ref b2, .int 0, .ref b4]))] (fun A => QI g A (fun r (_ : Unit) => r = (-1)) (fun _u : Unit => [])) := by
  refine Ctr.of (cc := cX11_tell) (maxL := 3) (ret := (some .int)) (by decide) rfl (Nat.le_of_ble_eq_true rfl) ?_
  intro p e s m below meth c A ls H C hP hD hA hS hl
  obtain ⟨hx, hb, hr, hts, hown, hlocks, hml, hin, hKN⟩ := id C
  have hK := hKN.1
  have hN := hKN.2
  have F : CallFix p m c cX11_tell 3 s _ wsX11_tell yX11_tell.cls := ⟨hx, hb, hml, hown, hts⟩
  have hl : lv_has ls 3 [(0, .ref h0), (1, .int x1)] := hl
  refine lv_aload_n hx hb dX11_tell_0 rfl (lv_at hl 0 rfl) ?_
  refine va_get (D := g.1) (ci := 11) (v := .ref a0) (C := RX11) (T := TX11) (N := 15) hx hb hts hi_X11_tell_X11 hown hK hP 0 rfl rfl 0 (by decide) (hts (.fieldLink RX11 12 "OilPush" "plant" "LOilPush$Plant;") (by decide +kernel)) (fun _ h => h) rfl dX11_tell_1 ?_
  refine lv_iload_n hx hb dX11_tell_4 rfl (lv_at hl 1 rfl) ?_
  refine callQV (As := [.int x1]) (rest := []) (wr := [(h0, .inr (11, [.ref a0, .ref a1, .ref a2, .ref a3, .ref a4, .ref a5, .ref a6, .ref a7, .ref a8, .ref a9, .ref a10, .int 0, .int 0, .int 0, .int 0]))]) (Cn := RX4) C (c_at l g a0 0 100 b2 b4 x1) 1 gX11_tell_X4_at rfl (by decide +kernel) ⟨(Nat.le_of_ble_eq_true rfl), (Nat.le_of_ble_eq_true rfl)⟩ [1] [0] hP hD hA hS rfl rfl rfl rfl (by decide) (k := 1) (ci := 4) rfl rfl rfl rfl hl.1 rfl (Nat.le_of_ble_eq_true rfl) dX11_tell_5 ⟨(Nat.le_of_ble_eq_true rfl), (Nat.le_of_ble_eq_true rfl)⟩ (fun r _u H locs hw hP hD hS => ?_)
  have hP : va_P g.1 vwCl [(h0, .inr (11, [.ref a0, .ref a1, .ref a2, .ref a3, .ref a4, .ref a5, .ref a6, .ref a7, .ref a8, .ref a9, .ref a10, .int 0, .int 0, .int 0, .int 0])), (a0, .inr (4, [.int 0, .int 100, .ref b2, .int 0, .ref b4]))] H := hP
  have hD : va_D A [(h0, .inr (11, [.ref a0, .ref a1, .ref a2, .ref a3, .ref a4, .ref a5, .ref a6, .ref a7, .ref a8, .ref a9, .ref a10, .int 0, .int 0, .int 0, .int 0])), (a0, .inr (4, [.int 0, .int 100, .ref b2, .int 0, .ref b4]))] := hD
  subst hw
  refine nx_v (v := .null) rfl ?_
  refine lv_astore_nN (lv' := [(2, .null), (0, .ref h0), (1, .int x1)]) hx hb dX11_tell_8 rfl hl (by decide) rfl (fun ls hl => ?_)
  refine lv_aload_nN hx hb dX11_tell_9 rfl (lv_at hl 0 rfl) ?_
  refine lv_ifnonnullN hx hb dX11_tell_10 ?_
  refine lv_iconst (v := -1) hx hb dX11_tell_13 (by decide) ?_
  refine lv_goto (tgt := 36) hx hb dX11_tell_14 (by decide) ?_
  exact retI C hS () rfl (hP.pick [] rfl) (hD.sub [] rfl rfl) (Nat.le_of_ble_eq_true rfl) (Nat.le_of_ble_eq_true rfl) dX11_tell_36
theorem hi_X11_look_X11 : ∀ w ∈ wsX110, w ∈ wsX11_look := fun w h => List.mem_cons_of_mem _ (List.mem_append_left _ (List.mem_append_left _ (List.mem_append_left _ (List.mem_append_left _ (List.mem_append_left _ (List.mem_append_right _ h))))))
set_option maxRecDepth 100000 in
set_option maxHeartbeats 4000000 in
theorem x_look (l : Launch) (g : Gt) (h0 : Nat) (a0 : Nat) (a1 : Nat) (a2 : Nat) (a3 : Nat) (a4 : Nat) (a5 : Nat) (a6 : Nat) (a7 : Nat) (a8 : Nat) (a9 : Nat) (a10 : Nat) (b2 : Nat) (b4 : Nat) (x1 : Int32)  : Ctr l g yX11_look wsX11_look ({ frames := 1, cells := 0, slots := 0, locals := 21 } : Room) [.ref h0, .int x1] [(h0, .inr (11, [.ref a0, .ref a1, .ref a2, .ref a3, .ref a4, .ref a5, .ref a6, .ref a7, .ref a8, .ref a9, .ref a10, .int 0, .int 0, .int 0, .int 0])), (a0, .inr (4, [.int 0, .int 100, .ref b2, .int 0, .ref b4]))] (fun A => QI g A (fun r (_ : Unit) => r = (-1)) (fun _u : Unit => [])) := by
  refine Ctr.of (cc := cX11_look) (maxL := 3) (ret := (some .int)) (by decide) rfl (Nat.le_of_ble_eq_true rfl) ?_
  intro p e s m below meth c A ls H C hP hD hA hS hl
  obtain ⟨hx, hb, hr, hts, hown, hlocks, hml, hin, hKN⟩ := id C
  have hK := hKN.1
  have hN := hKN.2
  have F : CallFix p m c cX11_look 3 s _ wsX11_look yX11_look.cls := ⟨hx, hb, hml, hown, hts⟩
  have hl : lv_has ls 3 [(0, .ref h0), (1, .int x1)] := hl
  refine lv_aload_n hx hb dX11_look_0 rfl (lv_at hl 0 rfl) ?_
  refine va_get (D := g.1) (ci := 11) (v := .ref a0) (C := RX11) (T := TX11) (N := 15) hx hb hts hi_X11_look_X11 hown hK hP 0 rfl rfl 0 (by decide) (hts (.fieldLink RX11 12 "OilPush" "plant" "LOilPush$Plant;") (by decide +kernel)) (fun _ h => h) rfl dX11_look_1 ?_
  refine lv_iload_n hx hb dX11_look_4 rfl (lv_at hl 1 rfl) ?_
  refine callQV (As := [.int x1]) (rest := []) (wr := [(h0, .inr (11, [.ref a0, .ref a1, .ref a2, .ref a3, .ref a4, .ref a5, .ref a6, .ref a7, .ref a8, .ref a9, .ref a10, .int 0, .int 0, .int 0, .int 0]))]) (Cn := RX4) C (c_at l g a0 0 100 b2 b4 x1) 1 gX11_look_X4_at rfl (by decide +kernel) ⟨(Nat.le_of_ble_eq_true rfl), (Nat.le_of_ble_eq_true rfl)⟩ [1] [0] hP hD hA hS rfl rfl rfl rfl (by decide) (k := 1) (ci := 4) rfl rfl rfl rfl hl.1 rfl (Nat.le_of_ble_eq_true rfl) dX11_look_5 ⟨(Nat.le_of_ble_eq_true rfl), (Nat.le_of_ble_eq_true rfl)⟩ (fun r _u H locs hw hP hD hS => ?_)
  have hP : va_P g.1 vwCl [(h0, .inr (11, [.ref a0, .ref a1, .ref a2, .ref a3, .ref a4, .ref a5, .ref a6, .ref a7, .ref a8, .ref a9, .ref a10, .int 0, .int 0, .int 0, .int 0])), (a0, .inr (4, [.int 0, .int 100, .ref b2, .int 0, .ref b4]))] H := hP
  have hD : va_D A [(h0, .inr (11, [.ref a0, .ref a1, .ref a2, .ref a3, .ref a4, .ref a5, .ref a6, .ref a7, .ref a8, .ref a9, .ref a10, .int 0, .int 0, .int 0, .int 0])), (a0, .inr (4, [.int 0, .int 100, .ref b2, .int 0, .ref b4]))] := hD
  subst hw
  refine nx_v (v := .null) rfl ?_
  refine lv_astore_nN (lv' := [(2, .null), (0, .ref h0), (1, .int x1)]) hx hb dX11_look_8 rfl hl (by decide) rfl (fun ls hl => ?_)
  refine lv_aload_nN hx hb dX11_look_9 rfl (lv_at hl 0 rfl) ?_
  refine lv_ifnonnullN hx hb dX11_look_10 ?_
  refine lv_iconst (v := -1) hx hb dX11_look_13 (by decide) ?_
  refine lv_goto (tgt := 25) hx hb dX11_look_14 (by decide) ?_
  exact retI C hS () rfl (hP.pick [] rfl) (hD.sub [] rfl rfl) (Nat.le_of_ble_eq_true rfl) (Nat.le_of_ble_eq_true rfl) dX11_look_25
theorem hi_X11_as_X11 : ∀ w ∈ wsX110, w ∈ wsX11_as := fun w h => List.mem_cons_of_mem _ (List.mem_append_left _ (List.mem_append_right _ h))
set_option maxRecDepth 100000 in
set_option maxHeartbeats 4000000 in
theorem x_as (l : Launch) (g : Gt) (h0 : Nat) (a0 : Nat) (a1 : Nat) (a2 : Nat) (a3 : Nat) (a4 : Nat) (a5 : Nat) (a6 : Nat) (a7 : Nat) (a8 : Nat) (a9 : Nat) (a10 : Nat) (b2 : Nat) (b4 : Nat) (x1 : Int32) (x2 : Int32)  : Ctr l g yX11_as wsX11_as ({ frames := 1, cells := 0, slots := 0, locals := 21 } : Room) [.ref h0, .int x1, .int x2] [(h0, .inr (11, [.ref a0, .ref a1, .ref a2, .ref a3, .ref a4, .ref a5, .ref a6, .ref a7, .ref a8, .ref a9, .ref a10, .int 0, .int 0, .int 0, .int 0])), (a0, .inr (4, [.int 0, .int 100, .ref b2, .int 0, .ref b4]))] (fun A => QI g A (fun r (_ : Unit) => r = (-1)) (fun _u : Unit => [])) := by
  refine Ctr.of (cc := cX11_as) (maxL := 5) (ret := (some .int)) (by decide) rfl (Nat.le_of_ble_eq_true rfl) ?_
  intro p e s m below meth c A ls H C hP hD hA hS hl
  obtain ⟨hx, hb, hr, hts, hown, hlocks, hml, hin, hKN⟩ := id C
  have hK := hKN.1
  have hN := hKN.2
  have F : CallFix p m c cX11_as 5 s _ wsX11_as yX11_as.cls := ⟨hx, hb, hml, hown, hts⟩
  have hl : lv_has ls 5 [(0, .ref h0), (1, .int x1), (2, .int x2)] := hl
  refine lv_aload_n hx hb dX11_as_0 rfl (lv_at hl 0 rfl) ?_
  refine lv_iconst (v := 0) hx hb dX11_as_1 (by decide) ?_
  refine va_put (D := g.1) (ci := 11) (v := .int 0) (ty := .int) (C := RX11) (T := TX11) (N := 15) hx hb hts hi_X11_as_X11 tyX11 tyX11_ok nmX11 hown hK hP hD hS 0 rfl rfl 11 (by decide) (hts (.fieldLink RX11 110 "OilPush" "latestFault" "I") (by decide +kernel)) (fun _ h => h) rfl (by decide +kernel) rfl rfl (Nat.le_of_ble_eq_true rfl) dX11_as_2 (fun H locs hP hD hS => ?_)
  have hP : va_P g.1 vwCl [(h0, .inr (11, [.ref a0, .ref a1, .ref a2, .ref a3, .ref a4, .ref a5, .ref a6, .ref a7, .ref a8, .ref a9, .ref a10, .int 0, .int 0, .int 0, .int 0])), (a0, .inr (4, [.int 0, .int 100, .ref b2, .int 0, .ref b4]))] H := hP
  have hD : va_D A [(h0, .inr (11, [.ref a0, .ref a1, .ref a2, .ref a3, .ref a4, .ref a5, .ref a6, .ref a7, .ref a8, .ref a9, .ref a10, .int 0, .int 0, .int 0, .int 0])), (a0, .inr (4, [.int 0, .int 100, .ref b2, .int 0, .ref b4]))] := hD
  refine lv_aload_n hx hb dX11_as_5 rfl (lv_at hl 0 rfl) ?_
  refine va_get (D := g.1) (ci := 11) (v := .ref a0) (C := RX11) (T := TX11) (N := 15) hx hb hts hi_X11_as_X11 hown hK hP 0 rfl rfl 0 (by decide) (hts (.fieldLink RX11 12 "OilPush" "plant" "LOilPush$Plant;") (by decide +kernel)) (fun _ h => h) rfl dX11_as_6 ?_
  refine lv_iload_n hx hb dX11_as_9 rfl (lv_at hl 1 rfl) ?_
  refine callQV (As := [.int x1]) (rest := []) (wr := [(h0, .inr (11, [.ref a0, .ref a1, .ref a2, .ref a3, .ref a4, .ref a5, .ref a6, .ref a7, .ref a8, .ref a9, .ref a10, .int 0, .int 0, .int 0, .int 0]))]) (Cn := RX4) C (c_at l g a0 0 100 b2 b4 x1) 1 gX11_as_X4_at rfl (by decide +kernel) ⟨(Nat.le_of_ble_eq_true rfl), (Nat.le_of_ble_eq_true rfl)⟩ [1] [0] hP hD hA hS rfl rfl rfl rfl (by decide) (k := 1) (ci := 4) rfl rfl rfl rfl hl.1 rfl (Nat.le_of_ble_eq_true rfl) dX11_as_10 ⟨(Nat.le_of_ble_eq_true rfl), (Nat.le_of_ble_eq_true rfl)⟩ (fun r _u H locs hw hP hD hS => ?_)
  have hP : va_P g.1 vwCl [(h0, .inr (11, [.ref a0, .ref a1, .ref a2, .ref a3, .ref a4, .ref a5, .ref a6, .ref a7, .ref a8, .ref a9, .ref a10, .int 0, .int 0, .int 0, .int 0])), (a0, .inr (4, [.int 0, .int 100, .ref b2, .int 0, .ref b4]))] H := hP
  have hD : va_D A [(h0, .inr (11, [.ref a0, .ref a1, .ref a2, .ref a3, .ref a4, .ref a5, .ref a6, .ref a7, .ref a8, .ref a9, .ref a10, .int 0, .int 0, .int 0, .int 0])), (a0, .inr (4, [.int 0, .int 100, .ref b2, .int 0, .ref b4]))] := hD
  subst hw
  refine nx_v (v := .null) rfl ?_
  refine lv_astore_nN (lv' := [(3, .null), (0, .ref h0), (1, .int x1), (2, .int x2)]) hx hb dX11_as_13 rfl hl (by decide) rfl (fun ls hl => ?_)
  refine lv_aload_nN hx hb dX11_as_14 rfl (lv_at hl 0 rfl) ?_
  refine lv_ifnonnullN hx hb dX11_as_15 ?_
  refine lv_iconst (v := -1) hx hb dX11_as_18 (by decide) ?_
  exact retI C hS () rfl (hP.pick [] rfl) (hD.sub [] rfl rfl) (Nat.le_of_ble_eq_true rfl) (Nat.le_of_ble_eq_true rfl) dX11_as_19
theorem hi_X11_sheetAt_X11 : ∀ w ∈ wsX110, w ∈ wsX11_sheetAt := fun w h => List.mem_cons_of_mem _ (List.mem_append_right _ h)
def r_c_sheetAt (s0 : Nat) (s1 : Nat) (s2 : Nat) (s3 : Nat) (k : Int32) : Option Nat := (if k < 0 then none else (if 4 ≤ k then none else ((va_up (va_up (va_up (va_up (fun _ => none) 0 (some s0)) 1 (some s1)) 2 (some s2)) 3 (some s3)) (k.toNatClampNeg))))
set_option maxRecDepth 100000 in
set_option maxHeartbeats 4000000 in
theorem c_sheetAt (l : Launch) (g : Gt) (h0 : Nat) (a0 : Nat) (a1 : Nat) (a2 : Nat) (a3 : Nat) (a4 : Nat) (a5 : Nat) (a6 : Nat) (a7 : Nat) (a8 : Nat) (a9 : Nat) (a10 : Nat) (s0 : Nat) (s1 : Nat) (s2 : Nat) (s3 : Nat) (k : Int32)  : Ctr l g yX11_sheetAt wsX11_sheetAt ({ frames := 0, cells := 0, slots := 0, locals := 0 } : Room) [.ref h0, .int k] [(h0, .inr (11, [.ref a0, .ref a1, .ref a2, .ref a3, .ref a4, .ref a5, .ref a6, .ref a7, .ref a8, .ref a9, .ref a10, .int 0, .int 0, .int 0, .int 0])), (a9, .inl (g.2 4, 4, .inr (.inr (.inr (.inr (va_up (va_up (va_up (va_up (fun _ => none) 0 (some s0)) 1 (some s1)) 2 (some s2)) 3 (some s3)))))))] (fun A => QQ g A (fun r (_ : Unit) => r = (r_c_sheetAt s0 s1 s2 s3 k)) (fun _u : Unit => [(h0, .inr (11, [.ref a0, .ref a1, .ref a2, .ref a3, .ref a4, .ref a5, .ref a6, .ref a7, .ref a8, .ref a9, .ref a10, .int 0, .int 0, .int 0, .int 0])), (a9, .inl (g.2 4, 4, .inr (.inr (.inr (.inr (va_up (va_up (va_up (va_up (fun _ => none) 0 (some s0)) 1 (some s1)) 2 (some s2)) 3 (some s3)))))))])) := by
  refine Ctr.of (cc := cX11_sheetAt) (maxL := 2) (ret := (some (.object "OilPush$Sheet"))) (by decide) rfl (Nat.le_of_ble_eq_true rfl) ?_
  intro p e s m below meth c A ls H C hP hD hA hS hl
  obtain ⟨hx, hb, hr, hts, hown, hlocks, hml, hin, hKN⟩ := id C
  have hK := hKN.1
  have hN := hKN.2
  have F : CallFix p m c cX11_sheetAt 2 s _ wsX11_sheetAt yX11_sheetAt.cls := ⟨hx, hb, hml, hown, hts⟩
  have hl : lv_has ls 2 [(0, .ref h0), (1, .int k)] := hl
  refine lv_iload_n hx hb dX11_sheetAt_0 rfl (lv_at hl 1 rfl) ?_
  refine lv_if_lt (tgt := 22) hx hb dX11_sheetAt_1 (by decide) (fun c1 => ?_) (fun c1 => ?_)
  · refine lv_null hx hb dX11_sheetAt_22 ?_
    exact retQ (r := none) C hS () (by unfold r_c_sheetAt; rw [if_pos c1]) (hP.pick [0, 1] rfl) (hD.sub [0, 1] rfl rfl) (Nat.le_of_ble_eq_true rfl) (Nat.le_of_ble_eq_true rfl) rfl dX11_sheetAt_23
  refine lv_iload_n hx hb dX11_sheetAt_4 rfl (lv_at hl 1 rfl) ?_
  refine lv_aload_n hx hb dX11_sheetAt_5 rfl (lv_at hl 0 rfl) ?_
  refine va_get (D := g.1) (ci := 11) (v := .ref a9) (C := RX11) (T := TX11) (N := 15) hx hb hts hi_X11_sheetAt_X11 hown hK hP 0 rfl rfl 9 (by decide) (hts (.fieldLink RX11 61 "OilPush" "sheets" "[LOilPush$Sheet;") (by decide +kernel)) (fun _ h => h) rfl dX11_sheetAt_6 ?_
  refine va_alen (v := 4) hx hb hK hP 1 4 rfl rfl rfl dX11_sheetAt_9 ?_
  refine lv_icmp_ge (tgt := 22) hx hb dX11_sheetAt_10 (by decide) (fun c2 => ?_) (fun c2 => ?_)
  · refine lv_null hx hb dX11_sheetAt_22 ?_
    exact retQ (r := none) C hS () (by unfold r_c_sheetAt; rw [if_neg c1, if_pos c2]) (hP.pick [0, 1] rfl) (hD.sub [0, 1] rfl rfl) (Nat.le_of_ble_eq_true rfl) (Nat.le_of_ble_eq_true rfl) rfl dX11_sheetAt_23
  refine lv_aload_n hx hb dX11_sheetAt_13 rfl (lv_at hl 0 rfl) ?_
  refine va_get (D := g.1) (ci := 11) (v := .ref a9) (C := RX11) (T := TX11) (N := 15) hx hb hts hi_X11_sheetAt_X11 hown hK hP 0 rfl rfl 9 (by decide) (hts (.fieldLink RX11 61 "OilPush" "sheets" "[LOilPush$Sheet;") (by decide +kernel)) (fun _ h => h) rfl dX11_sheetAt_14 ?_
  refine lv_iload_n hx hb dX11_sheetAt_17 rfl (lv_at hl 1 rfl) ?_
  refine va_aldq hx hb hK hP 1 4 rfl rfl (in_of (n := 4) (by decide) c1 c2) dX11_sheetAt_18 ?_
  refine lv_goto (tgt := 23) hx hb dX11_sheetAt_19 (by decide) ?_
  exact retQ (r := ((va_up (va_up (va_up (va_up (fun _ => none) 0 (some s0)) 1 (some s1)) 2 (some s2)) 3 (some s3)) (k.toNatClampNeg))) C hS () (by unfold r_c_sheetAt; rw [if_neg c1, if_neg c2]) (hP.pick [0, 1] rfl) (hD.sub [0, 1] rfl rfl) (Nat.le_of_ble_eq_true rfl) (Nat.le_of_ble_eq_true rfl) rfl dX11_sheetAt_23
theorem in4 {k : Int32} (h1 : ¬ k < 0) (h2 : ¬ 4 ≤ k) : k.toNatClampNeg = 0 ∨ k.toNatClampNeg = 1 ∨ k.toNatClampNeg = 2 ∨ k.toNatClampNeg = 3 := by
  rw [Int32.lt_iff_toInt_lt] at h1
  rw [Int32.le_iff_toInt_le] at h2
  have e0 : (0 : Int32).toInt = 0 := by decide
  have e4 : (4 : Int32).toInt = 4 := by decide
  have : k.toNatClampNeg = k.toInt.toNat := rfl
  omega
theorem hi_X11_loads_X11 : ∀ w ∈ wsX110, w ∈ wsX11_loads := fun w h => List.mem_cons_of_mem _ (List.mem_append_left _ (List.mem_append_left _ (List.mem_append_left _ (List.mem_append_left _ (List.mem_append_left _ (List.mem_append_right _ h))))))
set_option maxRecDepth 100000 in
set_option maxHeartbeats 4000000 in
theorem x_loads (l : Launch) (g : Gt) (h0 : Nat) (a0 : Nat) (a1 : Nat) (a2 : Nat) (a3 : Nat) (a4 : Nat) (a5 : Nat) (a6 : Nat) (a7 : Nat) (a8 : Nat) (a9 : Nat) (a10 : Nat) (b2 : Nat) (b4 : Nat) (s0 : Nat) (s1 : Nat) (s2 : Nat) (s3 : Nat) (x1 : Int32) (x2 : Int32) (x3 : Int32) (x4 : Int32) (x5 : Int32)  : Ctr l g yX11_loads wsX11_loads ({ frames := 1, cells := 0, slots := 0, locals := 21 } : Room) [.ref h0, .int x1, .int x2, .int x3, .int x4, .int x5] [(h0, .inr (11, [.ref a0, .ref a1, .ref a2, .ref a3, .ref a4, .ref a5, .ref a6, .ref a7, .ref a8, .ref a9, .ref a10, .int 0, .int 0, .int 0, .int 0])), (a0, .inr (4, [.int 0, .int 100, .ref b2, .int 0, .ref b4])), (a9, .inl (g.2 4, 4, .inr (.inr (.inr (.inr (va_up (va_up (va_up (va_up (fun _ => none) 0 (some s0)) 1 (some s1)) 2 (some s2)) 3 (some s3)))))))] (fun A => QI g A (fun r (_ : Unit) => r = (-1)) (fun _u : Unit => [])) := by
  refine Ctr.of (cc := cX11_loads) (maxL := 9) (ret := (some .int)) (by decide) rfl (Nat.le_of_ble_eq_true rfl) ?_
  intro p e s m below meth c A ls H C hP hD hA hS hl
  obtain ⟨hx, hb, hr, hts, hown, hlocks, hml, hin, hKN⟩ := id C
  have hK := hKN.1
  have hN := hKN.2
  have F : CallFix p m c cX11_loads 9 s _ wsX11_loads yX11_loads.cls := ⟨hx, hb, hml, hown, hts⟩
  have hl : lv_has ls 9 [(0, .ref h0), (1, .int x1), (2, .int x2), (3, .int x3), (4, .int x4), (5, .int x5)] := hl
  refine lv_aload_n hx hb dX11_loads_0 rfl (lv_at hl 0 rfl) ?_
  refine lv_iconst (v := 0) hx hb dX11_loads_1 (by decide) ?_
  refine va_put (D := g.1) (ci := 11) (v := .int 0) (ty := .int) (C := RX11) (T := TX11) (N := 15) hx hb hts hi_X11_loads_X11 tyX11 tyX11_ok nmX11 hown hK hP hD hS 0 rfl rfl 11 (by decide) (hts (.fieldLink RX11 110 "OilPush" "latestFault" "I") (by decide +kernel)) (fun _ h => h) rfl (by decide +kernel) rfl rfl (Nat.le_of_ble_eq_true rfl) dX11_loads_2 (fun H locs hP hD hS => ?_)
  have hP : va_P g.1 vwCl [(h0, .inr (11, [.ref a0, .ref a1, .ref a2, .ref a3, .ref a4, .ref a5, .ref a6, .ref a7, .ref a8, .ref a9, .ref a10, .int 0, .int 0, .int 0, .int 0])), (a0, .inr (4, [.int 0, .int 100, .ref b2, .int 0, .ref b4])), (a9, .inl (g.2 4, 4, .inr (.inr (.inr (.inr (va_up (va_up (va_up (va_up (fun _ => none) 0 (some s0)) 1 (some s1)) 2 (some s2)) 3 (some s3)))))))] H := hP
  have hD : va_D A [(h0, .inr (11, [.ref a0, .ref a1, .ref a2, .ref a3, .ref a4, .ref a5, .ref a6, .ref a7, .ref a8, .ref a9, .ref a10, .int 0, .int 0, .int 0, .int 0])), (a0, .inr (4, [.int 0, .int 100, .ref b2, .int 0, .ref b4])), (a9, .inl (g.2 4, 4, .inr (.inr (.inr (.inr (va_up (va_up (va_up (va_up (fun _ => none) 0 (some s0)) 1 (some s1)) 2 (some s2)) 3 (some s3)))))))] := hD
  refine lv_aload_n hx hb dX11_loads_5 rfl (lv_at hl 0 rfl) ?_
  refine va_get (D := g.1) (ci := 11) (v := .ref a0) (C := RX11) (T := TX11) (N := 15) hx hb hts hi_X11_loads_X11 hown hK hP 0 rfl rfl 0 (by decide) (hts (.fieldLink RX11 12 "OilPush" "plant" "LOilPush$Plant;") (by decide +kernel)) (fun _ h => h) rfl dX11_loads_6 ?_
  refine lv_iload_n hx hb dX11_loads_9 rfl (lv_at hl 1 rfl) ?_
  refine callQV (As := [.int x1]) (rest := []) (wr := [(h0, .inr (11, [.ref a0, .ref a1, .ref a2, .ref a3, .ref a4, .ref a5, .ref a6, .ref a7, .ref a8, .ref a9, .ref a10, .int 0, .int 0, .int 0, .int 0])), (a9, .inl (g.2 4, 4, .inr (.inr (.inr (.inr (va_up (va_up (va_up (va_up (fun _ => none) 0 (some s0)) 1 (some s1)) 2 (some s2)) 3 (some s3)))))))]) (Cn := RX4) C (c_at l g a0 0 100 b2 b4 x1) 1 gX11_loads_X4_at rfl (by decide +kernel) ⟨(Nat.le_of_ble_eq_true rfl), (Nat.le_of_ble_eq_true rfl)⟩ [1] [0, 2] hP hD hA hS rfl rfl rfl rfl (by decide) (k := 1) (ci := 4) rfl rfl rfl rfl hl.1 rfl (Nat.le_of_ble_eq_true rfl) dX11_loads_10 ⟨(Nat.le_of_ble_eq_true rfl), (Nat.le_of_ble_eq_true rfl)⟩ (fun r _u H locs hw hP hD hS => ?_)
  have hP : va_P g.1 vwCl [(h0, .inr (11, [.ref a0, .ref a1, .ref a2, .ref a3, .ref a4, .ref a5, .ref a6, .ref a7, .ref a8, .ref a9, .ref a10, .int 0, .int 0, .int 0, .int 0])), (a9, .inl (g.2 4, 4, .inr (.inr (.inr (.inr (va_up (va_up (va_up (va_up (fun _ => none) 0 (some s0)) 1 (some s1)) 2 (some s2)) 3 (some s3))))))), (a0, .inr (4, [.int 0, .int 100, .ref b2, .int 0, .ref b4]))] H := hP
  have hD : va_D A [(h0, .inr (11, [.ref a0, .ref a1, .ref a2, .ref a3, .ref a4, .ref a5, .ref a6, .ref a7, .ref a8, .ref a9, .ref a10, .int 0, .int 0, .int 0, .int 0])), (a9, .inl (g.2 4, 4, .inr (.inr (.inr (.inr (va_up (va_up (va_up (va_up (fun _ => none) 0 (some s0)) 1 (some s1)) 2 (some s2)) 3 (some s3))))))), (a0, .inr (4, [.int 0, .int 100, .ref b2, .int 0, .ref b4]))] := hD
  subst hw
  refine nx_v (v := .null) rfl ?_
  refine lv_astoreN (lv' := [(6, .null), (0, .ref h0), (1, .int x1), (2, .int x2), (3, .int x3), (4, .int x4), (5, .int x5)]) hx hb dX11_loads_13 hl (by decide) rfl (fun ls hl => ?_)
  refine lv_aload_n hx hb dX11_loads_15 rfl (lv_at hl 1 rfl) ?_
  refine lv_iload_n hx hb dX11_loads_16 rfl (lv_at hl 3 rfl) ?_
  refine callQV (As := [.int x2]) (rest := []) (wr := [(a0, .inr (4, [.int 0, .int 100, .ref b2, .int 0, .ref b4]))]) (Cn := RX11) C (c_sheetAt l g h0 a0 a1 a2 a3 a4 a5 a6 a7 a8 a9 a10 s0 s1 s2 s3 x2) 1 gX11_loads_X11_sheetAt rfl (by decide +kernel) ⟨(Nat.le_of_ble_eq_true rfl), (Nat.le_of_ble_eq_true rfl)⟩ [0, 1] [2] hP hD hA hS rfl rfl rfl rfl (by decide) (k := 0) (ci := 11) rfl rfl rfl rfl hl.1 rfl (Nat.le_of_ble_eq_true rfl) dX11_loads_17 ⟨(Nat.le_of_ble_eq_true rfl), (Nat.le_of_ble_eq_true rfl)⟩ (fun r _u H locs hw hP hD hS => ?_)
  have hP : va_P g.1 vwCl [(a0, .inr (4, [.int 0, .int 100, .ref b2, .int 0, .ref b4])), (h0, .inr (11, [.ref a0, .ref a1, .ref a2, .ref a3, .ref a4, .ref a5, .ref a6, .ref a7, .ref a8, .ref a9, .ref a10, .int 0, .int 0, .int 0, .int 0])), (a9, .inl (g.2 4, 4, .inr (.inr (.inr (.inr (va_up (va_up (va_up (va_up (fun _ => none) 0 (some s0)) 1 (some s1)) 2 (some s2)) 3 (some s3)))))))] H := hP
  have hD : va_D A [(a0, .inr (4, [.int 0, .int 100, .ref b2, .int 0, .ref b4])), (h0, .inr (11, [.ref a0, .ref a1, .ref a2, .ref a3, .ref a4, .ref a5, .ref a6, .ref a7, .ref a8, .ref a9, .ref a10, .int 0, .int 0, .int 0, .int 0])), (a9, .inl (g.2 4, 4, .inr (.inr (.inr (.inr (va_up (va_up (va_up (va_up (fun _ => none) 0 (some s0)) 1 (some s1)) 2 (some s2)) 3 (some s3)))))))] := hD
  subst hw
  by_cases b1 : x2 < 0
  · refine nx_v (v := .null) (by unfold r_c_sheetAt; rw [if_pos b1]; rfl) ?_
    refine lv_astoreN (lv' := [(7, .null), (6, .null), (0, .ref h0), (1, .int x1), (2, .int x2), (3, .int x3), (4, .int x4), (5, .int x5)]) hx hb dX11_loads_20 hl (by decide) rfl (fun ls hl => ?_)
    refine lv_aloadN hx hb dX11_loads_22 (lv_at hl 1 rfl) ?_
    refine lv_ifnullN (tgt := 32) hx hb dX11_loads_24 (by decide) ?_
    refine lv_iconst (v := -1) hx hb dX11_loads_32 (by decide) ?_
    exact retI C hS () rfl (hP.pick [] rfl) (hD.sub [] rfl rfl) (Nat.le_of_ble_eq_true rfl) (Nat.le_of_ble_eq_true rfl) dX11_loads_33
  by_cases b2 : 4 ≤ x2
  · refine nx_v (v := .null) (by unfold r_c_sheetAt; rw [if_neg b1, if_pos b2]; rfl) ?_
    refine lv_astoreN (lv' := [(7, .null), (6, .null), (0, .ref h0), (1, .int x1), (2, .int x2), (3, .int x3), (4, .int x4), (5, .int x5)]) hx hb dX11_loads_20 hl (by decide) rfl (fun ls hl => ?_)
    refine lv_aloadN hx hb dX11_loads_22 (lv_at hl 1 rfl) ?_
    refine lv_ifnullN (tgt := 32) hx hb dX11_loads_24 (by decide) ?_
    refine lv_iconst (v := -1) hx hb dX11_loads_32 (by decide) ?_
    exact retI C hS () rfl (hP.pick [] rfl) (hD.sub [] rfl rfl) (Nat.le_of_ble_eq_true rfl) (Nat.le_of_ble_eq_true rfl) dX11_loads_33
  rcases in4 b1 b2 with e3 | e3 | e3 | e3
  · refine nx_v (v := .ref s0) (by unfold r_c_sheetAt; rw [if_neg b1, if_neg b2, e3]; rfl) ?_
    refine lv_astore (lv' := [(7, .ref s0), (6, .null), (0, .ref h0), (1, .int x1), (2, .int x2), (3, .int x3), (4, .int x4), (5, .int x5)]) hx hb dX11_loads_20 hl (by decide) rfl (fun ls hl => ?_)
    refine lv_aloadN hx hb dX11_loads_22 (lv_at hl 1 rfl) ?_
    refine lv_ifnullN (tgt := 32) hx hb dX11_loads_24 (by decide) ?_
    refine lv_iconst (v := -1) hx hb dX11_loads_32 (by decide) ?_
    exact retI C hS () rfl (hP.pick [] rfl) (hD.sub [] rfl rfl) (Nat.le_of_ble_eq_true rfl) (Nat.le_of_ble_eq_true rfl) dX11_loads_33
  · refine nx_v (v := .ref s1) (by unfold r_c_sheetAt; rw [if_neg b1, if_neg b2, e3]; rfl) ?_
    refine lv_astore (lv' := [(7, .ref s1), (6, .null), (0, .ref h0), (1, .int x1), (2, .int x2), (3, .int x3), (4, .int x4), (5, .int x5)]) hx hb dX11_loads_20 hl (by decide) rfl (fun ls hl => ?_)
    refine lv_aloadN hx hb dX11_loads_22 (lv_at hl 1 rfl) ?_
    refine lv_ifnullN (tgt := 32) hx hb dX11_loads_24 (by decide) ?_
    refine lv_iconst (v := -1) hx hb dX11_loads_32 (by decide) ?_
    exact retI C hS () rfl (hP.pick [] rfl) (hD.sub [] rfl rfl) (Nat.le_of_ble_eq_true rfl) (Nat.le_of_ble_eq_true rfl) dX11_loads_33
  · refine nx_v (v := .ref s2) (by unfold r_c_sheetAt; rw [if_neg b1, if_neg b2, e3]; rfl) ?_
    refine lv_astore (lv' := [(7, .ref s2), (6, .null), (0, .ref h0), (1, .int x1), (2, .int x2), (3, .int x3), (4, .int x4), (5, .int x5)]) hx hb dX11_loads_20 hl (by decide) rfl (fun ls hl => ?_)
    refine lv_aloadN hx hb dX11_loads_22 (lv_at hl 1 rfl) ?_
    refine lv_ifnullN (tgt := 32) hx hb dX11_loads_24 (by decide) ?_
    refine lv_iconst (v := -1) hx hb dX11_loads_32 (by decide) ?_
    exact retI C hS () rfl (hP.pick [] rfl) (hD.sub [] rfl rfl) (Nat.le_of_ble_eq_true rfl) (Nat.le_of_ble_eq_true rfl) dX11_loads_33
  · refine nx_v (v := .ref s3) (by unfold r_c_sheetAt; rw [if_neg b1, if_neg b2, e3]; rfl) ?_
    refine lv_astore (lv' := [(7, .ref s3), (6, .null), (0, .ref h0), (1, .int x1), (2, .int x2), (3, .int x3), (4, .int x4), (5, .int x5)]) hx hb dX11_loads_20 hl (by decide) rfl (fun ls hl => ?_)
    refine lv_aloadN hx hb dX11_loads_22 (lv_at hl 1 rfl) ?_
    refine lv_ifnullN (tgt := 32) hx hb dX11_loads_24 (by decide) ?_
    refine lv_iconst (v := -1) hx hb dX11_loads_32 (by decide) ?_
    exact retI C hS () rfl (hP.pick [] rfl) (hD.sub [] rfl rfl) (Nat.le_of_ble_eq_true rfl) (Nat.le_of_ble_eq_true rfl) dX11_loads_33
theorem hi_X11_faulted_X11 : ∀ w ∈ wsX110, w ∈ wsX11_faulted := fun w h => List.mem_cons_of_mem _ (List.mem_append_right _ h)
set_option maxRecDepth 100000 in
set_option maxHeartbeats 4000000 in
theorem c_faulted (l : Launch) (g : Gt) (h0 : Nat) (a0 : Nat) (a1 : Nat) (a2 : Nat) (a3 : Nat) (a4 : Nat) (a5 : Nat) (a6 : Nat) (a7 : Nat) (a8 : Nat) (a9 : Nat) (a10 : Nat) (f11 : Int32) (which : Int32)  : Ctr l g yX11_faulted wsX11_faulted ({ frames := 0, cells := 0, slots := 0, locals := 0 } : Room) [.ref h0, .int which] [(h0, .inr (11, [.ref a0, .ref a1, .ref a2, .ref a3, .ref a4, .ref a5, .ref a6, .ref a7, .ref a8, .ref a9, .ref a10, .int f11, .int 0, .int 0, .int 0]))] (fun A => QI g A (fun r (_ : Unit) => r = ((-10) - which)) (fun _u : Unit => [])) := by
  refine Ctr.of (cc := cX11_faulted) (maxL := 2) (ret := (some .int)) (by decide) rfl (Nat.le_of_ble_eq_true rfl) ?_
  intro p e s m below meth c A ls H C hP hD hA hS hl
  obtain ⟨hx, hb, hr, hts, hown, hlocks, hml, hin, hKN⟩ := id C
  have hK := hKN.1
  have hN := hKN.2
  have F : CallFix p m c cX11_faulted 2 s _ wsX11_faulted yX11_faulted.cls := ⟨hx, hb, hml, hown, hts⟩
  have hl : lv_has ls 2 [(0, .ref h0), (1, .int which)] := hl
  refine lv_aload_n hx hb dX11_faulted_0 rfl (lv_at hl 0 rfl) ?_
  refine lv_iload_n hx hb dX11_faulted_1 rfl (lv_at hl 1 rfl) ?_
  refine va_put (D := g.1) (ci := 11) (v := .int which) (ty := .int) (C := RX11) (T := TX11) (N := 15) hx hb hts hi_X11_faulted_X11 tyX11 tyX11_ok nmX11 hown hK hP hD hS 0 rfl rfl 11 (by decide) (hts (.fieldLink RX11 110 "OilPush" "latestFault" "I") (by decide +kernel)) (fun _ h => h) rfl (by decide +kernel) rfl rfl (Nat.le_of_ble_eq_true rfl) dX11_faulted_2 (fun H locs hP hD hS => ?_)
  have hP : va_P g.1 vwCl [(h0, .inr (11, [.ref a0, .ref a1, .ref a2, .ref a3, .ref a4, .ref a5, .ref a6, .ref a7, .ref a8, .ref a9, .ref a10, .int which, .int 0, .int 0, .int 0]))] H := hP
  have hD : va_D A [(h0, .inr (11, [.ref a0, .ref a1, .ref a2, .ref a3, .ref a4, .ref a5, .ref a6, .ref a7, .ref a8, .ref a9, .ref a10, .int which, .int 0, .int 0, .int 0]))] := hD
  refine lv_bipush (v := -10) hx hb dX11_faulted_5 (by decide) ?_
  refine lv_iload_n hx hb dX11_faulted_7 rfl (lv_at hl 1 rfl) ?_
  refine lv_isub hx hb dX11_faulted_8 ?_
  exact retI C hS () rfl (hP.pick [] rfl) (hD.sub [] rfl rfl) (Nat.le_of_ble_eq_true rfl) (Nat.le_of_ble_eq_true rfl) dX11_faulted_9
theorem hi_X11_lose_X6 : ∀ w ∈ wsX60, w ∈ wsX11_lose := fun w h => List.mem_cons_of_mem _ (List.mem_append_left _ (List.mem_append_right _ h))
def r_x_lose (k : Int32) : Int32 := (if k < 0 then (-1) else (if 4 ≤ k then (-1) else 0))
set_option maxRecDepth 100000 in
set_option maxHeartbeats 4000000 in
theorem x_lose (l : Launch) (g : Gt) (h0 : Nat) (a0 : Nat) (a1 : Nat) (a2 : Nat) (a3 : Nat) (a4 : Nat) (a5 : Nat) (a6 : Nat) (a7 : Nat) (a8 : Nat) (a9 : Nat) (a10 : Nat) (s0 : Nat) (s1 : Nat) (s2 : Nat) (s3 : Nat) (t0 : Nat) (t1 : Nat) (t2 : Nat) (t3 : Nat) (k : Int32)  : Ctr l g yX11_lose wsX11_lose ({ frames := 1, cells := 0, slots := 0, locals := 21 } : Room) [.ref h0, .int k] [(h0, .inr (11, [.ref a0, .ref a1, .ref a2, .ref a3, .ref a4, .ref a5, .ref a6, .ref a7, .ref a8, .ref a9, .ref a10, .int 0, .int 0, .int 0, .int 0])), (a9, .inl (g.2 4, 4, .inr (.inr (.inr (.inr (va_up (va_up (va_up (va_up (fun _ => none) 0 (some s0)) 1 (some s1)) 2 (some s2)) 3 (some s3))))))), (s0, .inr (6, [.ref t0, .int 0, .int 0, .int 0])), (s1, .inr (6, [.ref t1, .int 0, .int 0, .int 0])), (s2, .inr (6, [.ref t2, .int 0, .int 0, .int 0])), (s3, .inr (6, [.ref t3, .int 0, .int 0, .int 0]))] (fun A => QI g A (fun r (_ : Unit) => r = (r_x_lose k)) (fun _u : Unit => [])) := by
  refine Ctr.of (cc := cX11_lose) (maxL := 4) (ret := (some .int)) (by decide) rfl (Nat.le_of_ble_eq_true rfl) ?_
  intro p e s m below meth c A ls H C hP hD hA hS hl
  obtain ⟨hx, hb, hr, hts, hown, hlocks, hml, hin, hKN⟩ := id C
  have hK := hKN.1
  have hN := hKN.2
  have F : CallFix p m c cX11_lose 4 s _ wsX11_lose yX11_lose.cls := ⟨hx, hb, hml, hown, hts⟩
  have hl : lv_has ls 4 [(0, .ref h0), (1, .int k)] := hl
  refine lv_aload_n hx hb dX11_lose_0 rfl (lv_at hl 0 rfl) ?_
  refine lv_iload_n hx hb dX11_lose_1 rfl (lv_at hl 1 rfl) ?_
  refine callQV (As := [.int k]) (rest := []) (wr := [(s0, .inr (6, [.ref t0, .int 0, .int 0, .int 0])), (s1, .inr (6, [.ref t1, .int 0, .int 0, .int 0])), (s2, .inr (6, [.ref t2, .int 0, .int 0, .int 0])), (s3, .inr (6, [.ref t3, .int 0, .int 0, .int 0]))]) (Cn := RX11) C (c_sheetAt l g h0 a0 a1 a2 a3 a4 a5 a6 a7 a8 a9 a10 s0 s1 s2 s3 k) 1 gX11_lose_X11_sheetAt rfl (by decide +kernel) ⟨(Nat.le_of_ble_eq_true rfl), (Nat.le_of_ble_eq_true rfl)⟩ [0, 1] [2, 3, 4, 5] hP hD hA hS rfl rfl rfl rfl (by decide) (k := 0) (ci := 11) rfl rfl rfl rfl hl.1 rfl (Nat.le_of_ble_eq_true rfl) dX11_lose_2 ⟨(Nat.le_of_ble_eq_true rfl), (Nat.le_of_ble_eq_true rfl)⟩ (fun r _u H locs hw hP hD hS => ?_)
  have hP : va_P g.1 vwCl [(s0, .inr (6, [.ref t0, .int 0, .int 0, .int 0])), (s1, .inr (6, [.ref t1, .int 0, .int 0, .int 0])), (s2, .inr (6, [.ref t2, .int 0, .int 0, .int 0])), (s3, .inr (6, [.ref t3, .int 0, .int 0, .int 0])), (h0, .inr (11, [.ref a0, .ref a1, .ref a2, .ref a3, .ref a4, .ref a5, .ref a6, .ref a7, .ref a8, .ref a9, .ref a10, .int 0, .int 0, .int 0, .int 0])), (a9, .inl (g.2 4, 4, .inr (.inr (.inr (.inr (va_up (va_up (va_up (va_up (fun _ => none) 0 (some s0)) 1 (some s1)) 2 (some s2)) 3 (some s3)))))))] H := hP
  have hD : va_D A [(s0, .inr (6, [.ref t0, .int 0, .int 0, .int 0])), (s1, .inr (6, [.ref t1, .int 0, .int 0, .int 0])), (s2, .inr (6, [.ref t2, .int 0, .int 0, .int 0])), (s3, .inr (6, [.ref t3, .int 0, .int 0, .int 0])), (h0, .inr (11, [.ref a0, .ref a1, .ref a2, .ref a3, .ref a4, .ref a5, .ref a6, .ref a7, .ref a8, .ref a9, .ref a10, .int 0, .int 0, .int 0, .int 0])), (a9, .inl (g.2 4, 4, .inr (.inr (.inr (.inr (va_up (va_up (va_up (va_up (fun _ => none) 0 (some s0)) 1 (some s1)) 2 (some s2)) 3 (some s3)))))))] := hD
  subst hw
  by_cases b1 : k < 0
  · refine nx_v (v := .null) (by unfold r_c_sheetAt; rw [if_pos b1]; rfl) ?_
    refine lv_astore_nN (lv' := [(2, .null), (0, .ref h0), (1, .int k)]) hx hb dX11_lose_5 rfl hl (by decide) rfl (fun ls hl => ?_)
    refine lv_aload_nN hx hb dX11_lose_6 rfl (lv_at hl 0 rfl) ?_
    refine lv_ifnonnullN hx hb dX11_lose_7 ?_
    refine lv_iconst (v := -1) hx hb dX11_lose_10 (by decide) ?_
    exact retI C hS () (by unfold r_x_lose; rw [if_pos b1]) (hP.pick [] rfl) (hD.sub [] rfl rfl) (Nat.le_of_ble_eq_true rfl) (Nat.le_of_ble_eq_true rfl) dX11_lose_11
  by_cases b2 : 4 ≤ k
  · refine nx_v (v := .null) (by unfold r_c_sheetAt; rw [if_neg b1, if_pos b2]; rfl) ?_
    refine lv_astore_nN (lv' := [(2, .null), (0, .ref h0), (1, .int k)]) hx hb dX11_lose_5 rfl hl (by decide) rfl (fun ls hl => ?_)
    refine lv_aload_nN hx hb dX11_lose_6 rfl (lv_at hl 0 rfl) ?_
    refine lv_ifnonnullN hx hb dX11_lose_7 ?_
    refine lv_iconst (v := -1) hx hb dX11_lose_10 (by decide) ?_
    exact retI C hS () (by unfold r_x_lose; rw [if_neg b1, if_pos b2]) (hP.pick [] rfl) (hD.sub [] rfl rfl) (Nat.le_of_ble_eq_true rfl) (Nat.le_of_ble_eq_true rfl) dX11_lose_11
  rcases in4 b1 b2 with e3 | e3 | e3 | e3
  · refine nx_v (v := .ref s0) (by unfold r_c_sheetAt; rw [if_neg b1, if_neg b2, e3]; rfl) ?_
    refine lv_astore_n (lv' := [(2, .ref s0), (0, .ref h0), (1, .int k)]) hx hb dX11_lose_5 rfl hl (by decide) rfl (fun ls hl => ?_)
    refine lv_aload_n hx hb dX11_lose_6 rfl (lv_at hl 0 rfl) ?_
    refine lv_ifnonnull (tgt := 12) hx hb dX11_lose_7 (by decide) ?_
    refine lv_aload_n hx hb dX11_lose_12 rfl (lv_at hl 0 rfl) ?_
    refine va_get (D := g.1) (ci := 6) (v := .int 0) (C := RX6) (T := TX6) (N := 4) hx hb hts hi_X11_lose_X6 hown hK hP 0 rfl rfl 1 (by decide) (hts (.fieldLink RX11 277 "OilPush$Sheet" "has" "Z") (by decide +kernel)) (fun _ h => h) rfl dX11_lose_13 ?_
    refine lv_istore_n (lv' := [(3, .int 0), (2, .ref s0), (0, .ref h0), (1, .int k)]) hx hb dX11_lose_16 rfl hl (by decide) rfl (fun ls hl => ?_)
    refine lv_aload_n hx hb dX11_lose_17 rfl (lv_at hl 1 rfl) ?_
    refine lv_iconst (v := 0) hx hb dX11_lose_18 (by decide) ?_
    refine va_put (D := g.1) (ci := 6) (v := .int 0) (ty := .boolean) (C := RX6) (T := TX6) (N := 4) hx hb hts hi_X11_lose_X6 tyX6 tyX6_ok nmX6 hown hK hP hD hS 0 rfl rfl 1 (by decide) (hts (.fieldLink RX11 277 "OilPush$Sheet" "has" "Z") (by decide +kernel)) (fun _ h => h) rfl (by decide +kernel) rfl rfl (Nat.le_of_ble_eq_true rfl) dX11_lose_19 (fun H locs hP hD hS => ?_)
    have hP : va_P g.1 vwCl [(s0, .inr (6, [.ref t0, .int 0, .int 0, .int 0])), (s1, .inr (6, [.ref t1, .int 0, .int 0, .int 0])), (s2, .inr (6, [.ref t2, .int 0, .int 0, .int 0])), (s3, .inr (6, [.ref t3, .int 0, .int 0, .int 0])), (h0, .inr (11, [.ref a0, .ref a1, .ref a2, .ref a3, .ref a4, .ref a5, .ref a6, .ref a7, .ref a8, .ref a9, .ref a10, .int 0, .int 0, .int 0, .int 0])), (a9, .inl (g.2 4, 4, .inr (.inr (.inr (.inr (va_up (va_up (va_up (va_up (fun _ => none) 0 (some s0)) 1 (some s1)) 2 (some s2)) 3 (some s3)))))))] H := hP
    have hD : va_D A [(s0, .inr (6, [.ref t0, .int 0, .int 0, .int 0])), (s1, .inr (6, [.ref t1, .int 0, .int 0, .int 0])), (s2, .inr (6, [.ref t2, .int 0, .int 0, .int 0])), (s3, .inr (6, [.ref t3, .int 0, .int 0, .int 0])), (h0, .inr (11, [.ref a0, .ref a1, .ref a2, .ref a3, .ref a4, .ref a5, .ref a6, .ref a7, .ref a8, .ref a9, .ref a10, .int 0, .int 0, .int 0, .int 0])), (a9, .inl (g.2 4, 4, .inr (.inr (.inr (.inr (va_up (va_up (va_up (va_up (fun _ => none) 0 (some s0)) 1 (some s1)) 2 (some s2)) 3 (some s3)))))))] := hD
    refine lv_iload_n hx hb dX11_lose_22 rfl (lv_at hl 0 rfl) ?_
    refine lv_if_eq (tgt := 30) hx hb dX11_lose_23 (by decide) (fun _ => ?_) (fun cc0 => absurd cc0 (by decide))
    refine lv_iconst (v := 0) hx hb dX11_lose_30 (by decide) ?_
    exact retI C hS () (by unfold r_x_lose; rw [if_neg b1, if_neg b2]) (hP.pick [] rfl) (hD.sub [] rfl rfl) (Nat.le_of_ble_eq_true rfl) (Nat.le_of_ble_eq_true rfl) dX11_lose_31
  · refine nx_v (v := .ref s1) (by unfold r_c_sheetAt; rw [if_neg b1, if_neg b2, e3]; rfl) ?_
    refine lv_astore_n (lv' := [(2, .ref s1), (0, .ref h0), (1, .int k)]) hx hb dX11_lose_5 rfl hl (by decide) rfl (fun ls hl => ?_)
    refine lv_aload_n hx hb dX11_lose_6 rfl (lv_at hl 0 rfl) ?_
    refine lv_ifnonnull (tgt := 12) hx hb dX11_lose_7 (by decide) ?_
    refine lv_aload_n hx hb dX11_lose_12 rfl (lv_at hl 0 rfl) ?_
    refine va_get (D := g.1) (ci := 6) (v := .int 0) (C := RX6) (T := TX6) (N := 4) hx hb hts hi_X11_lose_X6 hown hK hP 1 rfl rfl 1 (by decide) (hts (.fieldLink RX11 277 "OilPush$Sheet" "has" "Z") (by decide +kernel)) (fun _ h => h) rfl dX11_lose_13 ?_
    refine lv_istore_n (lv' := [(3, .int 0), (2, .ref s1), (0, .ref h0), (1, .int k)]) hx hb dX11_lose_16 rfl hl (by decide) rfl (fun ls hl => ?_)
    refine lv_aload_n hx hb dX11_lose_17 rfl (lv_at hl 1 rfl) ?_
    refine lv_iconst (v := 0) hx hb dX11_lose_18 (by decide) ?_
    refine va_put (D := g.1) (ci := 6) (v := .int 0) (ty := .boolean) (C := RX6) (T := TX6) (N := 4) hx hb hts hi_X11_lose_X6 tyX6 tyX6_ok nmX6 hown hK hP hD hS 1 rfl rfl 1 (by decide) (hts (.fieldLink RX11 277 "OilPush$Sheet" "has" "Z") (by decide +kernel)) (fun _ h => h) rfl (by decide +kernel) rfl rfl (Nat.le_of_ble_eq_true rfl) dX11_lose_19 (fun H locs hP hD hS => ?_)
    have hP : va_P g.1 vwCl [(s0, .inr (6, [.ref t0, .int 0, .int 0, .int 0])), (s1, .inr (6, [.ref t1, .int 0, .int 0, .int 0])), (s2, .inr (6, [.ref t2, .int 0, .int 0, .int 0])), (s3, .inr (6, [.ref t3, .int 0, .int 0, .int 0])), (h0, .inr (11, [.ref a0, .ref a1, .ref a2, .ref a3, .ref a4, .ref a5, .ref a6, .ref a7, .ref a8, .ref a9, .ref a10, .int 0, .int 0, .int 0, .int 0])), (a9, .inl (g.2 4, 4, .inr (.inr (.inr (.inr (va_up (va_up (va_up (va_up (fun _ => none) 0 (some s0)) 1 (some s1)) 2 (some s2)) 3 (some s3)))))))] H := hP
    have hD : va_D A [(s0, .inr (6, [.ref t0, .int 0, .int 0, .int 0])), (s1, .inr (6, [.ref t1, .int 0, .int 0, .int 0])), (s2, .inr (6, [.ref t2, .int 0, .int 0, .int 0])), (s3, .inr (6, [.ref t3, .int 0, .int 0, .int 0])), (h0, .inr (11, [.ref a0, .ref a1, .ref a2, .ref a3, .ref a4, .ref a5, .ref a6, .ref a7, .ref a8, .ref a9, .ref a10, .int 0, .int 0, .int 0, .int 0])), (a9, .inl (g.2 4, 4, .inr (.inr (.inr (.inr (va_up (va_up (va_up (va_up (fun _ => none) 0 (some s0)) 1 (some s1)) 2 (some s2)) 3 (some s3)))))))] := hD
    refine lv_iload_n hx hb dX11_lose_22 rfl (lv_at hl 0 rfl) ?_
    refine lv_if_eq (tgt := 30) hx hb dX11_lose_23 (by decide) (fun _ => ?_) (fun cc0 => absurd cc0 (by decide))
    refine lv_iconst (v := 0) hx hb dX11_lose_30 (by decide) ?_
    exact retI C hS () (by unfold r_x_lose; rw [if_neg b1, if_neg b2]) (hP.pick [] rfl) (hD.sub [] rfl rfl) (Nat.le_of_ble_eq_true rfl) (Nat.le_of_ble_eq_true rfl) dX11_lose_31
  · refine nx_v (v := .ref s2) (by unfold r_c_sheetAt; rw [if_neg b1, if_neg b2, e3]; rfl) ?_
    refine lv_astore_n (lv' := [(2, .ref s2), (0, .ref h0), (1, .int k)]) hx hb dX11_lose_5 rfl hl (by decide) rfl (fun ls hl => ?_)
    refine lv_aload_n hx hb dX11_lose_6 rfl (lv_at hl 0 rfl) ?_
    refine lv_ifnonnull (tgt := 12) hx hb dX11_lose_7 (by decide) ?_
    refine lv_aload_n hx hb dX11_lose_12 rfl (lv_at hl 0 rfl) ?_
    refine va_get (D := g.1) (ci := 6) (v := .int 0) (C := RX6) (T := TX6) (N := 4) hx hb hts hi_X11_lose_X6 hown hK hP 2 rfl rfl 1 (by decide) (hts (.fieldLink RX11 277 "OilPush$Sheet" "has" "Z") (by decide +kernel)) (fun _ h => h) rfl dX11_lose_13 ?_
    refine lv_istore_n (lv' := [(3, .int 0), (2, .ref s2), (0, .ref h0), (1, .int k)]) hx hb dX11_lose_16 rfl hl (by decide) rfl (fun ls hl => ?_)
    refine lv_aload_n hx hb dX11_lose_17 rfl (lv_at hl 1 rfl) ?_
    refine lv_iconst (v := 0) hx hb dX11_lose_18 (by decide) ?_
    refine va_put (D := g.1) (ci := 6) (v := .int 0) (ty := .boolean) (C := RX6) (T := TX6) (N := 4) hx hb hts hi_X11_lose_X6 tyX6 tyX6_ok nmX6 hown hK hP hD hS 2 rfl rfl 1 (by decide) (hts (.fieldLink RX11 277 "OilPush$Sheet" "has" "Z") (by decide +kernel)) (fun _ h => h) rfl (by decide +kernel) rfl rfl (Nat.le_of_ble_eq_true rfl) dX11_lose_19 (fun H locs hP hD hS => ?_)
    have hP : va_P g.1 vwCl [(s0, .inr (6, [.ref t0, .int 0, .int 0, .int 0])), (s1, .inr (6, [.ref t1, .int 0, .int 0, .int 0])), (s2, .inr (6, [.ref t2, .int 0, .int 0, .int 0])), (s3, .inr (6, [.ref t3, .int 0, .int 0, .int 0])), (h0, .inr (11, [.ref a0, .ref a1, .ref a2, .ref a3, .ref a4, .ref a5, .ref a6, .ref a7, .ref a8, .ref a9, .ref a10, .int 0, .int 0, .int 0, .int 0])), (a9, .inl (g.2 4, 4, .inr (.inr (.inr (.inr (va_up (va_up (va_up (va_up (fun _ => none) 0 (some s0)) 1 (some s1)) 2 (some s2)) 3 (some s3)))))))] H := hP
    have hD : va_D A [(s0, .inr (6, [.ref t0, .int 0, .int 0, .int 0])), (s1, .inr (6, [.ref t1, .int 0, .int 0, .int 0])), (s2, .inr (6, [.ref t2, .int 0, .int 0, .int 0])), (s3, .inr (6, [.ref t3, .int 0, .int 0, .int 0])), (h0, .inr (11, [.ref a0, .ref a1, .ref a2, .ref a3, .ref a4, .ref a5, .ref a6, .ref a7, .ref a8, .ref a9, .ref a10, .int 0, .int 0, .int 0, .int 0])), (a9, .inl (g.2 4, 4, .inr (.inr (.inr (.inr (va_up (va_up (va_up (va_up (fun _ => none) 0 (some s0)) 1 (some s1)) 2 (some s2)) 3 (some s3)))))))] := hD
    refine lv_iload_n hx hb dX11_lose_22 rfl (lv_at hl 0 rfl) ?_
    refine lv_if_eq (tgt := 30) hx hb dX11_lose_23 (by decide) (fun _ => ?_) (fun cc0 => absurd cc0 (by decide))
    refine lv_iconst (v := 0) hx hb dX11_lose_30 (by decide) ?_
    exact retI C hS () (by unfold r_x_lose; rw [if_neg b1, if_neg b2]) (hP.pick [] rfl) (hD.sub [] rfl rfl) (Nat.le_of_ble_eq_true rfl) (Nat.le_of_ble_eq_true rfl) dX11_lose_31
  · refine nx_v (v := .ref s3) (by unfold r_c_sheetAt; rw [if_neg b1, if_neg b2, e3]; rfl) ?_
    refine lv_astore_n (lv' := [(2, .ref s3), (0, .ref h0), (1, .int k)]) hx hb dX11_lose_5 rfl hl (by decide) rfl (fun ls hl => ?_)
    refine lv_aload_n hx hb dX11_lose_6 rfl (lv_at hl 0 rfl) ?_
    refine lv_ifnonnull (tgt := 12) hx hb dX11_lose_7 (by decide) ?_
    refine lv_aload_n hx hb dX11_lose_12 rfl (lv_at hl 0 rfl) ?_
    refine va_get (D := g.1) (ci := 6) (v := .int 0) (C := RX6) (T := TX6) (N := 4) hx hb hts hi_X11_lose_X6 hown hK hP 3 rfl rfl 1 (by decide) (hts (.fieldLink RX11 277 "OilPush$Sheet" "has" "Z") (by decide +kernel)) (fun _ h => h) rfl dX11_lose_13 ?_
    refine lv_istore_n (lv' := [(3, .int 0), (2, .ref s3), (0, .ref h0), (1, .int k)]) hx hb dX11_lose_16 rfl hl (by decide) rfl (fun ls hl => ?_)
    refine lv_aload_n hx hb dX11_lose_17 rfl (lv_at hl 1 rfl) ?_
    refine lv_iconst (v := 0) hx hb dX11_lose_18 (by decide) ?_
    refine va_put (D := g.1) (ci := 6) (v := .int 0) (ty := .boolean) (C := RX6) (T := TX6) (N := 4) hx hb hts hi_X11_lose_X6 tyX6 tyX6_ok nmX6 hown hK hP hD hS 3 rfl rfl 1 (by decide) (hts (.fieldLink RX11 277 "OilPush$Sheet" "has" "Z") (by decide +kernel)) (fun _ h => h) rfl (by decide +kernel) rfl rfl (Nat.le_of_ble_eq_true rfl) dX11_lose_19 (fun H locs hP hD hS => ?_)
    have hP : va_P g.1 vwCl [(s0, .inr (6, [.ref t0, .int 0, .int 0, .int 0])), (s1, .inr (6, [.ref t1, .int 0, .int 0, .int 0])), (s2, .inr (6, [.ref t2, .int 0, .int 0, .int 0])), (s3, .inr (6, [.ref t3, .int 0, .int 0, .int 0])), (h0, .inr (11, [.ref a0, .ref a1, .ref a2, .ref a3, .ref a4, .ref a5, .ref a6, .ref a7, .ref a8, .ref a9, .ref a10, .int 0, .int 0, .int 0, .int 0])), (a9, .inl (g.2 4, 4, .inr (.inr (.inr (.inr (va_up (va_up (va_up (va_up (fun _ => none) 0 (some s0)) 1 (some s1)) 2 (some s2)) 3 (some s3)))))))] H := hP
    have hD : va_D A [(s0, .inr (6, [.ref t0, .int 0, .int 0, .int 0])), (s1, .inr (6, [.ref t1, .int 0, .int 0, .int 0])), (s2, .inr (6, [.ref t2, .int 0, .int 0, .int 0])), (s3, .inr (6, [.ref t3, .int 0, .int 0, .int 0])), (h0, .inr (11, [.ref a0, .ref a1, .ref a2, .ref a3, .ref a4, .ref a5, .ref a6, .ref a7, .ref a8, .ref a9, .ref a10, .int 0, .int 0, .int 0, .int 0])), (a9, .inl (g.2 4, 4, .inr (.inr (.inr (.inr (va_up (va_up (va_up (va_up (fun _ => none) 0 (some s0)) 1 (some s1)) 2 (some s2)) 3 (some s3)))))))] := hD
    refine lv_iload_n hx hb dX11_lose_22 rfl (lv_at hl 0 rfl) ?_
    refine lv_if_eq (tgt := 30) hx hb dX11_lose_23 (by decide) (fun _ => ?_) (fun cc0 => absurd cc0 (by decide))
    refine lv_iconst (v := 0) hx hb dX11_lose_30 (by decide) ?_
    exact retI C hS () (by unfold r_x_lose; rw [if_neg b1, if_neg b2]) (hP.pick [] rfl) (hD.sub [] rfl rfl) (Nat.le_of_ble_eq_true rfl) (Nat.le_of_ble_eq_true rfl) dX11_lose_31
theorem hi_X11_put_X11 : ∀ w ∈ wsX110, w ∈ wsX11_put := fun w h => List.mem_cons_of_mem _ (List.mem_append_left _ (List.mem_append_right _ h))
theorem hi_X11_put_X6 : ∀ w ∈ wsX60, w ∈ wsX11_put := fun w h => List.mem_cons_of_mem _ (List.mem_append_right _ h)
def r_x_put (k : Int32) : Int32 := (if k < 0 then (-1) else (if 4 ≤ k then (-1) else ((-10) - 1)))
set_option maxRecDepth 100000 in
set_option maxHeartbeats 4000000 in
theorem x_put (l : Launch) (g : Gt) (h0 : Nat) (a0 : Nat) (a1 : Nat) (a2 : Nat) (a3 : Nat) (a4 : Nat) (a5 : Nat) (a6 : Nat) (a7 : Nat) (a8 : Nat) (a9 : Nat) (a10 : Nat) (s0 : Nat) (s1 : Nat) (s2 : Nat) (s3 : Nat) (t0 : Nat) (t1 : Nat) (t2 : Nat) (t3 : Nat) (k : Int32) (i : Int32) (v : Int32)  : Ctr l g yX11_put wsX11_put ({ frames := 1, cells := 0, slots := 0, locals := 21 } : Room) [.ref h0, .int k, .int i, .int v] [(h0, .inr (11, [.ref a0, .ref a1, .ref a2, .ref a3, .ref a4, .ref a5, .ref a6, .ref a7, .ref a8, .ref a9, .ref a10, .int 0, .int 0, .int 0, .int 0])), (a9, .inl (g.2 4, 4, .inr (.inr (.inr (.inr (va_up (va_up (va_up (va_up (fun _ => none) 0 (some s0)) 1 (some s1)) 2 (some s2)) 3 (some s3))))))), (s0, .inr (6, [.ref t0, .int 0, .int 0, .int 0])), (s1, .inr (6, [.ref t1, .int 0, .int 0, .int 0])), (s2, .inr (6, [.ref t2, .int 0, .int 0, .int 0])), (s3, .inr (6, [.ref t3, .int 0, .int 0, .int 0]))] (fun A => QI g A (fun r (_ : Unit) => r = (r_x_put k)) (fun _u : Unit => [])) := by
  refine Ctr.of (cc := cX11_put) (maxL := 5) (ret := (some .int)) (by decide) rfl (Nat.le_of_ble_eq_true rfl) ?_
  intro p e s m below meth c A ls H C hP hD hA hS hl
  obtain ⟨hx, hb, hr, hts, hown, hlocks, hml, hin, hKN⟩ := id C
  have hK := hKN.1
  have hN := hKN.2
  have F : CallFix p m c cX11_put 5 s _ wsX11_put yX11_put.cls := ⟨hx, hb, hml, hown, hts⟩
  have hl : lv_has ls 5 [(0, .ref h0), (1, .int k), (2, .int i), (3, .int v)] := hl
  refine lv_aload_n hx hb dX11_put_0 rfl (lv_at hl 0 rfl) ?_
  refine lv_iconst (v := 0) hx hb dX11_put_1 (by decide) ?_
  refine va_put (D := g.1) (ci := 11) (v := .int 0) (ty := .int) (C := RX11) (T := TX11) (N := 15) hx hb hts hi_X11_put_X11 tyX11 tyX11_ok nmX11 hown hK hP hD hS 0 rfl rfl 11 (by decide) (hts (.fieldLink RX11 110 "OilPush" "latestFault" "I") (by decide +kernel)) (fun _ h => h) rfl (by decide +kernel) rfl rfl (Nat.le_of_ble_eq_true rfl) dX11_put_2 (fun H locs hP hD hS => ?_)
  have hP : va_P g.1 vwCl [(h0, .inr (11, [.ref a0, .ref a1, .ref a2, .ref a3, .ref a4, .ref a5, .ref a6, .ref a7, .ref a8, .ref a9, .ref a10, .int 0, .int 0, .int 0, .int 0])), (a9, .inl (g.2 4, 4, .inr (.inr (.inr (.inr (va_up (va_up (va_up (va_up (fun _ => none) 0 (some s0)) 1 (some s1)) 2 (some s2)) 3 (some s3))))))), (s0, .inr (6, [.ref t0, .int 0, .int 0, .int 0])), (s1, .inr (6, [.ref t1, .int 0, .int 0, .int 0])), (s2, .inr (6, [.ref t2, .int 0, .int 0, .int 0])), (s3, .inr (6, [.ref t3, .int 0, .int 0, .int 0]))] H := hP
  have hD : va_D A [(h0, .inr (11, [.ref a0, .ref a1, .ref a2, .ref a3, .ref a4, .ref a5, .ref a6, .ref a7, .ref a8, .ref a9, .ref a10, .int 0, .int 0, .int 0, .int 0])), (a9, .inl (g.2 4, 4, .inr (.inr (.inr (.inr (va_up (va_up (va_up (va_up (fun _ => none) 0 (some s0)) 1 (some s1)) 2 (some s2)) 3 (some s3))))))), (s0, .inr (6, [.ref t0, .int 0, .int 0, .int 0])), (s1, .inr (6, [.ref t1, .int 0, .int 0, .int 0])), (s2, .inr (6, [.ref t2, .int 0, .int 0, .int 0])), (s3, .inr (6, [.ref t3, .int 0, .int 0, .int 0]))] := hD
  refine lv_aload_n hx hb dX11_put_5 rfl (lv_at hl 0 rfl) ?_
  refine lv_iload_n hx hb dX11_put_6 rfl (lv_at hl 1 rfl) ?_
  refine callQV (As := [.int k]) (rest := []) (wr := [(s0, .inr (6, [.ref t0, .int 0, .int 0, .int 0])), (s1, .inr (6, [.ref t1, .int 0, .int 0, .int 0])), (s2, .inr (6, [.ref t2, .int 0, .int 0, .int 0])), (s3, .inr (6, [.ref t3, .int 0, .int 0, .int 0]))]) (Cn := RX11) C (c_sheetAt l g h0 a0 a1 a2 a3 a4 a5 a6 a7 a8 a9 a10 s0 s1 s2 s3 k) 1 gX11_put_X11_sheetAt rfl (by decide +kernel) ⟨(Nat.le_of_ble_eq_true rfl), (Nat.le_of_ble_eq_true rfl)⟩ [0, 1] [2, 3, 4, 5] hP hD hA hS rfl rfl rfl rfl (by decide) (k := 0) (ci := 11) rfl rfl rfl rfl hl.1 rfl (Nat.le_of_ble_eq_true rfl) dX11_put_7 ⟨(Nat.le_of_ble_eq_true rfl), (Nat.le_of_ble_eq_true rfl)⟩ (fun r _u H locs hw hP hD hS => ?_)
  have hP : va_P g.1 vwCl [(s0, .inr (6, [.ref t0, .int 0, .int 0, .int 0])), (s1, .inr (6, [.ref t1, .int 0, .int 0, .int 0])), (s2, .inr (6, [.ref t2, .int 0, .int 0, .int 0])), (s3, .inr (6, [.ref t3, .int 0, .int 0, .int 0])), (h0, .inr (11, [.ref a0, .ref a1, .ref a2, .ref a3, .ref a4, .ref a5, .ref a6, .ref a7, .ref a8, .ref a9, .ref a10, .int 0, .int 0, .int 0, .int 0])), (a9, .inl (g.2 4, 4, .inr (.inr (.inr (.inr (va_up (va_up (va_up (va_up (fun _ => none) 0 (some s0)) 1 (some s1)) 2 (some s2)) 3 (some s3)))))))] H := hP
  have hD : va_D A [(s0, .inr (6, [.ref t0, .int 0, .int 0, .int 0])), (s1, .inr (6, [.ref t1, .int 0, .int 0, .int 0])), (s2, .inr (6, [.ref t2, .int 0, .int 0, .int 0])), (s3, .inr (6, [.ref t3, .int 0, .int 0, .int 0])), (h0, .inr (11, [.ref a0, .ref a1, .ref a2, .ref a3, .ref a4, .ref a5, .ref a6, .ref a7, .ref a8, .ref a9, .ref a10, .int 0, .int 0, .int 0, .int 0])), (a9, .inl (g.2 4, 4, .inr (.inr (.inr (.inr (va_up (va_up (va_up (va_up (fun _ => none) 0 (some s0)) 1 (some s1)) 2 (some s2)) 3 (some s3)))))))] := hD
  subst hw
  by_cases b1 : k < 0
  · refine nx_v (v := .null) (by unfold r_c_sheetAt; rw [if_pos b1]; rfl) ?_
    refine lv_astoreN (lv' := [(4, .null), (0, .ref h0), (1, .int k), (2, .int i), (3, .int v)]) hx hb dX11_put_10 hl (by decide) rfl (fun ls hl => ?_)
    refine lv_aloadN hx hb dX11_put_12 (lv_at hl 0 rfl) ?_
    refine lv_ifnonnullN hx hb dX11_put_14 ?_
    refine lv_iconst (v := -1) hx hb dX11_put_17 (by decide) ?_
    exact retI C hS () (by unfold r_x_put; rw [if_pos b1]) (hP.pick [] rfl) (hD.sub [] rfl rfl) (Nat.le_of_ble_eq_true rfl) (Nat.le_of_ble_eq_true rfl) dX11_put_18
  by_cases b2 : 4 ≤ k
  · refine nx_v (v := .null) (by unfold r_c_sheetAt; rw [if_neg b1, if_pos b2]; rfl) ?_
    refine lv_astoreN (lv' := [(4, .null), (0, .ref h0), (1, .int k), (2, .int i), (3, .int v)]) hx hb dX11_put_10 hl (by decide) rfl (fun ls hl => ?_)
    refine lv_aloadN hx hb dX11_put_12 (lv_at hl 0 rfl) ?_
    refine lv_ifnonnullN hx hb dX11_put_14 ?_
    refine lv_iconst (v := -1) hx hb dX11_put_17 (by decide) ?_
    exact retI C hS () (by unfold r_x_put; rw [if_neg b1, if_pos b2]) (hP.pick [] rfl) (hD.sub [] rfl rfl) (Nat.le_of_ble_eq_true rfl) (Nat.le_of_ble_eq_true rfl) dX11_put_18
  rcases in4 b1 b2 with e3 | e3 | e3 | e3
  · refine nx_v (v := .ref s0) (by unfold r_c_sheetAt; rw [if_neg b1, if_neg b2, e3]; rfl) ?_
    refine lv_astore (lv' := [(4, .ref s0), (0, .ref h0), (1, .int k), (2, .int i), (3, .int v)]) hx hb dX11_put_10 hl (by decide) rfl (fun ls hl => ?_)
    refine lv_aload hx hb dX11_put_12 (lv_at hl 0 rfl) ?_
    refine lv_ifnonnull (tgt := 19) hx hb dX11_put_14 (by decide) ?_
    refine lv_aload hx hb dX11_put_19 (lv_at hl 0 rfl) ?_
    refine va_get (D := g.1) (ci := 6) (v := .int 0) (C := RX6) (T := TX6) (N := 4) hx hb hts hi_X11_put_X6 hown hK hP 0 rfl rfl 1 (by decide) (hts (.fieldLink RX11 277 "OilPush$Sheet" "has" "Z") (by decide +kernel)) (fun _ h => h) rfl dX11_put_21 ?_
    refine lv_if_ne (tgt := 33) hx hb dX11_put_24 (by decide) (fun cc0 => absurd cc0 (by decide)) (fun _ => ?_)
    refine lv_aload_n hx hb dX11_put_27 rfl (lv_at hl 1 rfl) ?_
    refine lv_iconst (v := 1) hx hb dX11_put_28 (by decide) ?_
    refine callIV (As := [.int 1]) (rest := []) (wr := [(s0, .inr (6, [.ref t0, .int 0, .int 0, .int 0])), (s1, .inr (6, [.ref t1, .int 0, .int 0, .int 0])), (s2, .inr (6, [.ref t2, .int 0, .int 0, .int 0])), (s3, .inr (6, [.ref t3, .int 0, .int 0, .int 0])), (a9, .inl (g.2 4, 4, .inr (.inr (.inr (.inr (va_up (va_up (va_up (va_up (fun _ => none) 0 (some s0)) 1 (some s1)) 2 (some s2)) 3 (some s3)))))))]) (Cn := RX11) C (c_faulted l g h0 a0 a1 a2 a3 a4 a5 a6 a7 a8 a9 a10 0 1) 1 gX11_put_X11_faulted rfl (by decide +kernel) ⟨(Nat.le_of_ble_eq_true rfl), (Nat.le_of_ble_eq_true rfl)⟩ [4] [0, 1, 2, 3, 5] hP hD hA hS rfl rfl rfl rfl (by decide) (k := 4) (ci := 11) rfl rfl rfl rfl hl.1 rfl (Nat.le_of_ble_eq_true rfl) dX11_put_29 ⟨(Nat.le_of_ble_eq_true rfl), (Nat.le_of_ble_eq_true rfl)⟩ (fun r _u H locs hw hP hD hS => ?_)
    have hP : va_P g.1 vwCl [(s0, .inr (6, [.ref t0, .int 0, .int 0, .int 0])), (s1, .inr (6, [.ref t1, .int 0, .int 0, .int 0])), (s2, .inr (6, [.ref t2, .int 0, .int 0, .int 0])), (s3, .inr (6, [.ref t3, .int 0, .int 0, .int 0])), (a9, .inl (g.2 4, 4, .inr (.inr (.inr (.inr (va_up (va_up (va_up (va_up (fun _ => none) 0 (some s0)) 1 (some s1)) 2 (some s2)) 3 (some s3)))))))] H := hP
    have hD : va_D A [(s0, .inr (6, [.ref t0, .int 0, .int 0, .int 0])), (s1, .inr (6, [.ref t1, .int 0, .int 0, .int 0])), (s2, .inr (6, [.ref t2, .int 0, .int 0, .int 0])), (s3, .inr (6, [.ref t3, .int 0, .int 0, .int 0])), (a9, .inl (g.2 4, 4, .inr (.inr (.inr (.inr (va_up (va_up (va_up (va_up (fun _ => none) 0 (some s0)) 1 (some s1)) 2 (some s2)) 3 (some s3)))))))] := hD
    subst hw
    exact retI C hS () (by unfold r_x_put; rw [if_neg b1, if_neg b2]) (hP.pick [] rfl) (hD.sub [] rfl rfl) (Nat.le_of_ble_eq_true rfl) (Nat.le_of_ble_eq_true rfl) dX11_put_32
  · refine nx_v (v := .ref s1) (by unfold r_c_sheetAt; rw [if_neg b1, if_neg b2, e3]; rfl) ?_
    refine lv_astore (lv' := [(4, .ref s1), (0, .ref h0), (1, .int k), (2, .int i), (3, .int v)]) hx hb dX11_put_10 hl (by decide) rfl (fun ls hl => ?_)
    refine lv_aload hx hb dX11_put_12 (lv_at hl 0 rfl) ?_
    refine lv_ifnonnull (tgt := 19) hx hb dX11_put_14 (by decide) ?_
    refine lv_aload hx hb dX11_put_19 (lv_at hl 0 rfl) ?_
    refine va_get (D := g.1) (ci := 6) (v := .int 0) (C := RX6) (T := TX6) (N := 4) hx hb hts hi_X11_put_X6 hown hK hP 1 rfl rfl 1 (by decide) (hts (.fieldLink RX11 277 "OilPush$Sheet" "has" "Z") (by decide +kernel)) (fun _ h => h) rfl dX11_put_21 ?_
    refine lv_if_ne (tgt := 33) hx hb dX11_put_24 (by decide) (fun cc0 => absurd cc0 (by decide)) (fun _ => ?_)
    refine lv_aload_n hx hb dX11_put_27 rfl (lv_at hl 1 rfl) ?_
    refine lv_iconst (v := 1) hx hb dX11_put_28 (by decide) ?_
    refine callIV (As := [.int 1]) (rest := []) (wr := [(s0, .inr (6, [.ref t0, .int 0, .int 0, .int 0])), (s1, .inr (6, [.ref t1, .int 0, .int 0, .int 0])), (s2, .inr (6, [.ref t2, .int 0, .int 0, .int 0])), (s3, .inr (6, [.ref t3, .int 0, .int 0, .int 0])), (a9, .inl (g.2 4, 4, .inr (.inr (.inr (.inr (va_up (va_up (va_up (va_up (fun _ => none) 0 (some s0)) 1 (some s1)) 2 (some s2)) 3 (some s3)))))))]) (Cn := RX11) C (c_faulted l g h0 a0 a1 a2 a3 a4 a5 a6 a7 a8 a9 a10 0 1) 1 gX11_put_X11_faulted rfl (by decide +kernel) ⟨(Nat.le_of_ble_eq_true rfl), (Nat.le_of_ble_eq_true rfl)⟩ [4] [0, 1, 2, 3, 5] hP hD hA hS rfl rfl rfl rfl (by decide) (k := 4) (ci := 11) rfl rfl rfl rfl hl.1 rfl (Nat.le_of_ble_eq_true rfl) dX11_put_29 ⟨(Nat.le_of_ble_eq_true rfl), (Nat.le_of_ble_eq_true rfl)⟩ (fun r _u H locs hw hP hD hS => ?_)
    have hP : va_P g.1 vwCl [(s0, .inr (6, [.ref t0, .int 0, .int 0, .int 0])), (s1, .inr (6, [.ref t1, .int 0, .int 0, .int 0])), (s2, .inr (6, [.ref t2, .int 0, .int 0, .int 0])), (s3, .inr (6, [.ref t3, .int 0, .int 0, .int 0])), (a9, .inl (g.2 4, 4, .inr (.inr (.inr (.inr (va_up (va_up (va_up (va_up (fun _ => none) 0 (some s0)) 1 (some s1)) 2 (some s2)) 3 (some s3)))))))] H := hP
    have hD : va_D A [(s0, .inr (6, [.ref t0, .int 0, .int 0, .int 0])), (s1, .inr (6, [.ref t1, .int 0, .int 0, .int 0])), (s2, .inr (6, [.ref t2, .int 0, .int 0, .int 0])), (s3, .inr (6, [.ref t3, .int 0, .int 0, .int 0])), (a9, .inl (g.2 4, 4, .inr (.inr (.inr (.inr (va_up (va_up (va_up (va_up (fun _ => none) 0 (some s0)) 1 (some s1)) 2 (some s2)) 3 (some s3)))))))] := hD
    subst hw
    exact retI C hS () (by unfold r_x_put; rw [if_neg b1, if_neg b2]) (hP.pick [] rfl) (hD.sub [] rfl rfl) (Nat.le_of_ble_eq_true rfl) (Nat.le_of_ble_eq_true rfl) dX11_put_32
  · refine nx_v (v := .ref s2) (by unfold r_c_sheetAt; rw [if_neg b1, if_neg b2, e3]; rfl) ?_
    refine lv_astore (lv' := [(4, .ref s2), (0, .ref h0), (1, .int k), (2, .int i), (3, .int v)]) hx hb dX11_put_10 hl (by decide) rfl (fun ls hl => ?_)
    refine lv_aload hx hb dX11_put_12 (lv_at hl 0 rfl) ?_
    refine lv_ifnonnull (tgt := 19) hx hb dX11_put_14 (by decide) ?_
    refine lv_aload hx hb dX11_put_19 (lv_at hl 0 rfl) ?_
    refine va_get (D := g.1) (ci := 6) (v := .int 0) (C := RX6) (T := TX6) (N := 4) hx hb hts hi_X11_put_X6 hown hK hP 2 rfl rfl 1 (by decide) (hts (.fieldLink RX11 277 "OilPush$Sheet" "has" "Z") (by decide +kernel)) (fun _ h => h) rfl dX11_put_21 ?_
    refine lv_if_ne (tgt := 33) hx hb dX11_put_24 (by decide) (fun cc0 => absurd cc0 (by decide)) (fun _ => ?_)
    refine lv_aload_n hx hb dX11_put_27 rfl (lv_at hl 1 rfl) ?_
    refine lv_iconst (v := 1) hx hb dX11_put_28 (by decide) ?_
    refine callIV (As := [.int 1]) (rest := []) (wr := [(s0, .inr (6, [.ref t0, .int 0, .int 0, .int 0])), (s1, .inr (6, [.ref t1, .int 0, .int 0, .int 0])), (s2, .inr (6, [.ref t2, .int 0, .int 0, .int 0])), (s3, .inr (6, [.ref t3, .int 0, .int 0, .int 0])), (a9, .inl (g.2 4, 4, .inr (.inr (.inr (.inr (va_up (va_up (va_up (va_up (fun _ => none) 0 (some s0)) 1 (some s1)) 2 (some s2)) 3 (some s3)))))))]) (Cn := RX11) C (c_faulted l g h0 a0 a1 a2 a3 a4 a5 a6 a7 a8 a9 a10 0 1) 1 gX11_put_X11_faulted rfl (by decide +kernel) ⟨(Nat.le_of_ble_eq_true rfl), (Nat.le_of_ble_eq_true rfl)⟩ [4] [0, 1, 2, 3, 5] hP hD hA hS rfl rfl rfl rfl (by decide) (k := 4) (ci := 11) rfl rfl rfl rfl hl.1 rfl (Nat.le_of_ble_eq_true rfl) dX11_put_29 ⟨(Nat.le_of_ble_eq_true rfl), (Nat.le_of_ble_eq_true rfl)⟩ (fun r _u H locs hw hP hD hS => ?_)
    have hP : va_P g.1 vwCl [(s0, .inr (6, [.ref t0, .int 0, .int 0, .int 0])), (s1, .inr (6, [.ref t1, .int 0, .int 0, .int 0])), (s2, .inr (6, [.ref t2, .int 0, .int 0, .int 0])), (s3, .inr (6, [.ref t3, .int 0, .int 0, .int 0])), (a9, .inl (g.2 4, 4, .inr (.inr (.inr (.inr (va_up (va_up (va_up (va_up (fun _ => none) 0 (some s0)) 1 (some s1)) 2 (some s2)) 3 (some s3)))))))] H := hP
    have hD : va_D A [(s0, .inr (6, [.ref t0, .int 0, .int 0, .int 0])), (s1, .inr (6, [.ref t1, .int 0, .int 0, .int 0])), (s2, .inr (6, [.ref t2, .int 0, .int 0, .int 0])), (s3, .inr (6, [.ref t3, .int 0, .int 0, .int 0])), (a9, .inl (g.2 4, 4, .inr (.inr (.inr (.inr (va_up (va_up (va_up (va_up (fun _ => none) 0 (some s0)) 1 (some s1)) 2 (some s2)) 3 (some s3)))))))] := hD
    subst hw
    exact retI C hS () (by unfold r_x_put; rw [if_neg b1, if_neg b2]) (hP.pick [] rfl) (hD.sub [] rfl rfl) (Nat.le_of_ble_eq_true rfl) (Nat.le_of_ble_eq_true rfl) dX11_put_32
  · refine nx_v (v := .ref s3) (by unfold r_c_sheetAt; rw [if_neg b1, if_neg b2, e3]; rfl) ?_
    refine lv_astore (lv' := [(4, .ref s3), (0, .ref h0), (1, .int k), (2, .int i), (3, .int v)]) hx hb dX11_put_10 hl (by decide) rfl (fun ls hl => ?_)
    refine lv_aload hx hb dX11_put_12 (lv_at hl 0 rfl) ?_
    refine lv_ifnonnull (tgt := 19) hx hb dX11_put_14 (by decide) ?_
    refine lv_aload hx hb dX11_put_19 (lv_at hl 0 rfl) ?_
    refine va_get (D := g.1) (ci := 6) (v := .int 0) (C := RX6) (T := TX6) (N := 4) hx hb hts hi_X11_put_X6 hown hK hP 3 rfl rfl 1 (by decide) (hts (.fieldLink RX11 277 "OilPush$Sheet" "has" "Z") (by decide +kernel)) (fun _ h => h) rfl dX11_put_21 ?_
    refine lv_if_ne (tgt := 33) hx hb dX11_put_24 (by decide) (fun cc0 => absurd cc0 (by decide)) (fun _ => ?_)
    refine lv_aload_n hx hb dX11_put_27 rfl (lv_at hl 1 rfl) ?_
    refine lv_iconst (v := 1) hx hb dX11_put_28 (by decide) ?_
    refine callIV (As := [.int 1]) (rest := []) (wr := [(s0, .inr (6, [.ref t0, .int 0, .int 0, .int 0])), (s1, .inr (6, [.ref t1, .int 0, .int 0, .int 0])), (s2, .inr (6, [.ref t2, .int 0, .int 0, .int 0])), (s3, .inr (6, [.ref t3, .int 0, .int 0, .int 0])), (a9, .inl (g.2 4, 4, .inr (.inr (.inr (.inr (va_up (va_up (va_up (va_up (fun _ => none) 0 (some s0)) 1 (some s1)) 2 (some s2)) 3 (some s3)))))))]) (Cn := RX11) C (c_faulted l g h0 a0 a1 a2 a3 a4 a5 a6 a7 a8 a9 a10 0 1) 1 gX11_put_X11_faulted rfl (by decide +kernel) ⟨(Nat.le_of_ble_eq_true rfl), (Nat.le_of_ble_eq_true rfl)⟩ [4] [0, 1, 2, 3, 5] hP hD hA hS rfl rfl rfl rfl (by decide) (k := 4) (ci := 11) rfl rfl rfl rfl hl.1 rfl (Nat.le_of_ble_eq_true rfl) dX11_put_29 ⟨(Nat.le_of_ble_eq_true rfl), (Nat.le_of_ble_eq_true rfl)⟩ (fun r _u H locs hw hP hD hS => ?_)
    have hP : va_P g.1 vwCl [(s0, .inr (6, [.ref t0, .int 0, .int 0, .int 0])), (s1, .inr (6, [.ref t1, .int 0, .int 0, .int 0])), (s2, .inr (6, [.ref t2, .int 0, .int 0, .int 0])), (s3, .inr (6, [.ref t3, .int 0, .int 0, .int 0])), (a9, .inl (g.2 4, 4, .inr (.inr (.inr (.inr (va_up (va_up (va_up (va_up (fun _ => none) 0 (some s0)) 1 (some s1)) 2 (some s2)) 3 (some s3)))))))] H := hP
    have hD : va_D A [(s0, .inr (6, [.ref t0, .int 0, .int 0, .int 0])), (s1, .inr (6, [.ref t1, .int 0, .int 0, .int 0])), (s2, .inr (6, [.ref t2, .int 0, .int 0, .int 0])), (s3, .inr (6, [.ref t3, .int 0, .int 0, .int 0])), (a9, .inl (g.2 4, 4, .inr (.inr (.inr (.inr (va_up (va_up (va_up (va_up (fun _ => none) 0 (some s0)) 1 (some s1)) 2 (some s2)) 3 (some s3)))))))] := hD
    subst hw
    exact retI C hS () (by unfold r_x_put; rw [if_neg b1, if_neg b2]) (hP.pick [] rfl) (hD.sub [] rfl rfl) (Nat.le_of_ble_eq_true rfl) (Nat.le_of_ble_eq_true rfl) dX11_put_32
theorem hi_X6_faultTakenAs_X6 : ∀ w ∈ wsX60, w ∈ wsX6_faultTakenAs := fun w h => List.mem_cons_of_mem _ (List.mem_append_right _ h)
set_option maxRecDepth 100000 in
set_option maxHeartbeats 4000000 in
theorem c_faultTakenAs (l : Launch) (g : Gt) (s0 : Nat) (t0 : Nat) (lane : Int32)  : Ctr l g yX6_faultTakenAs wsX6_faultTakenAs ({ frames := 0, cells := 0, slots := 0, locals := 0 } : Room) [.ref s0, .int lane] [(s0, .inr (6, [.ref t0, .int 0, .int 0, .int 0]))] (fun A => QI g A (fun r (_ : Unit) => r = 1) (fun _u : Unit => [(s0, .inr (6, [.ref t0, .int 0, .int 0, .int 0]))])) := by
  refine Ctr.of (cc := cX6_faultTakenAs) (maxL := 2) (ret := (some .int)) (by decide) rfl (Nat.le_of_ble_eq_true rfl) ?_
  intro p e s m below meth c A ls H C hP hD hA hS hl
  obtain ⟨hx, hb, hr, hts, hown, hlocks, hml, hin, hKN⟩ := id C
  have hK := hKN.1
  have hN := hKN.2
  have F : CallFix p m c cX6_faultTakenAs 2 s _ wsX6_faultTakenAs yX6_faultTakenAs.cls := ⟨hx, hb, hml, hown, hts⟩
  have hl : lv_has ls 2 [(0, .ref s0), (1, .int lane)] := hl
  refine lv_aload_n hx hb dX6_faultTakenAs_0 rfl (lv_at hl 0 rfl) ?_
  refine va_get (D := g.1) (ci := 6) (v := .int 0) (C := RX6) (T := TX6) (N := 4) hx hb hts hi_X6_faultTakenAs_X6 hown hK hP 0 rfl rfl 1 (by decide) (hts (.fieldLink RX6 21 "OilPush$Sheet" "has" "Z") (by decide +kernel)) (fun _ h => h) rfl dX6_faultTakenAs_1 ?_
  refine lv_if_ne (tgt := 9) hx hb dX6_faultTakenAs_4 (by decide) (fun cc0 => absurd cc0 (by decide)) (fun _ => ?_)
  refine lv_iconst (v := 1) hx hb dX6_faultTakenAs_7 (by decide) ?_
  exact retI C hS () rfl (hP.pick [0] rfl) (hD.sub [0] rfl rfl) (Nat.le_of_ble_eq_true rfl) (Nat.le_of_ble_eq_true rfl) dX6_faultTakenAs_8
theorem hi_X11_cell_X11 : ∀ w ∈ wsX110, w ∈ wsX11_cell := fun w h => List.mem_cons_of_mem _ (List.mem_append_left _ (List.mem_append_right _ h))
set_option maxRecDepth 100000 in
set_option maxHeartbeats 4000000 in
theorem x_cell (l : Launch) (g : Gt) (h0 : Nat) (a0 : Nat) (a1 : Nat) (a2 : Nat) (a3 : Nat) (a4 : Nat) (a5 : Nat) (a6 : Nat) (a7 : Nat) (a8 : Nat) (a9 : Nat) (a10 : Nat) (s0 : Nat) (s1 : Nat) (s2 : Nat) (s3 : Nat) (t0 : Nat) (t1 : Nat) (t2 : Nat) (t3 : Nat) (k : Int32) (i : Int32) (lane : Int32)  : Ctr l g yX11_cell wsX11_cell ({ frames := 2, cells := 0, slots := 0, locals := 42 } : Room) [.ref h0, .int k, .int i, .int lane] [(h0, .inr (11, [.ref a0, .ref a1, .ref a2, .ref a3, .ref a4, .ref a5, .ref a6, .ref a7, .ref a8, .ref a9, .ref a10, .int 0, .int 0, .int 0, .int 0])), (a9, .inl (g.2 4, 4, .inr (.inr (.inr (.inr (va_up (va_up (va_up (va_up (fun _ => none) 0 (some s0)) 1 (some s1)) 2 (some s2)) 3 (some s3))))))), (s0, .inr (6, [.ref t0, .int 0, .int 0, .int 0])), (s1, .inr (6, [.ref t1, .int 0, .int 0, .int 0])), (s2, .inr (6, [.ref t2, .int 0, .int 0, .int 0])), (s3, .inr (6, [.ref t3, .int 0, .int 0, .int 0]))] (fun A => QL g A (fun r (_ : Unit) => r = (-9223372036854775808)) (fun _u : Unit => [])) := by
  refine Ctr.of (cc := cX11_cell) (maxL := 5) (ret := (some .long)) (by decide) rfl (Nat.le_of_ble_eq_true rfl) ?_
  intro p e s m below meth c A ls H C hP hD hA hS hl
  obtain ⟨hx, hb, hr, hts, hown, hlocks, hml, hin, hKN⟩ := id C
  have hK := hKN.1
  have hN := hKN.2
  have F : CallFix p m c cX11_cell 5 s _ wsX11_cell yX11_cell.cls := ⟨hx, hb, hml, hown, hts⟩
  have hl : lv_has ls 5 [(0, .ref h0), (1, .int k), (2, .int i), (3, .int lane)] := hl
  refine lv_aload_n hx hb dX11_cell_0 rfl (lv_at hl 0 rfl) ?_
  refine lv_iconst (v := 0) hx hb dX11_cell_1 (by decide) ?_
  refine va_put (D := g.1) (ci := 11) (v := .int 0) (ty := .int) (C := RX11) (T := TX11) (N := 15) hx hb hts hi_X11_cell_X11 tyX11 tyX11_ok nmX11 hown hK hP hD hS 0 rfl rfl 11 (by decide) (hts (.fieldLink RX11 110 "OilPush" "latestFault" "I") (by decide +kernel)) (fun _ h => h) rfl (by decide +kernel) rfl rfl (Nat.le_of_ble_eq_true rfl) dX11_cell_2 (fun H locs hP hD hS => ?_)
  have hP : va_P g.1 vwCl [(h0, .inr (11, [.ref a0, .ref a1, .ref a2, .ref a3, .ref a4, .ref a5, .ref a6, .ref a7, .ref a8, .ref a9, .ref a10, .int 0, .int 0, .int 0, .int 0])), (a9, .inl (g.2 4, 4, .inr (.inr (.inr (.inr (va_up (va_up (va_up (va_up (fun _ => none) 0 (some s0)) 1 (some s1)) 2 (some s2)) 3 (some s3))))))), (s0, .inr (6, [.ref t0, .int 0, .int 0, .int 0])), (s1, .inr (6, [.ref t1, .int 0, .int 0, .int 0])), (s2, .inr (6, [.ref t2, .int 0, .int 0, .int 0])), (s3, .inr (6, [.ref t3, .int 0, .int 0, .int 0]))] H := hP
  have hD : va_D A [(h0, .inr (11, [.ref a0, .ref a1, .ref a2, .ref a3, .ref a4, .ref a5, .ref a6, .ref a7, .ref a8, .ref a9, .ref a10, .int 0, .int 0, .int 0, .int 0])), (a9, .inl (g.2 4, 4, .inr (.inr (.inr (.inr (va_up (va_up (va_up (va_up (fun _ => none) 0 (some s0)) 1 (some s1)) 2 (some s2)) 3 (some s3))))))), (s0, .inr (6, [.ref t0, .int 0, .int 0, .int 0])), (s1, .inr (6, [.ref t1, .int 0, .int 0, .int 0])), (s2, .inr (6, [.ref t2, .int 0, .int 0, .int 0])), (s3, .inr (6, [.ref t3, .int 0, .int 0, .int 0]))] := hD
  refine lv_aload_n hx hb dX11_cell_5 rfl (lv_at hl 0 rfl) ?_
  refine lv_iload_n hx hb dX11_cell_6 rfl (lv_at hl 1 rfl) ?_
  refine callQV (As := [.int k]) (rest := []) (wr := [(s0, .inr (6, [.ref t0, .int 0, .int 0, .int 0])), (s1, .inr (6, [.ref t1, .int 0, .int 0, .int 0])), (s2, .inr (6, [.ref t2, .int 0, .int 0, .int 0])), (s3, .inr (6, [.ref t3, .int 0, .int 0, .int 0]))]) (Cn := RX11) C (c_sheetAt l g h0 a0 a1 a2 a3 a4 a5 a6 a7 a8 a9 a10 s0 s1 s2 s3 k) 1 gX11_cell_X11_sheetAt rfl (by decide +kernel) ⟨(Nat.le_of_ble_eq_true rfl), (Nat.le_of_ble_eq_true rfl)⟩ [0, 1] [2, 3, 4, 5] hP hD hA hS rfl rfl rfl rfl (by decide) (k := 0) (ci := 11) rfl rfl rfl rfl hl.1 rfl (Nat.le_of_ble_eq_true rfl) dX11_cell_7 ⟨(Nat.le_of_ble_eq_true rfl), (Nat.le_of_ble_eq_true rfl)⟩ (fun r _u H locs hw hP hD hS => ?_)
  have hP : va_P g.1 vwCl [(s0, .inr (6, [.ref t0, .int 0, .int 0, .int 0])), (s1, .inr (6, [.ref t1, .int 0, .int 0, .int 0])), (s2, .inr (6, [.ref t2, .int 0, .int 0, .int 0])), (s3, .inr (6, [.ref t3, .int 0, .int 0, .int 0])), (h0, .inr (11, [.ref a0, .ref a1, .ref a2, .ref a3, .ref a4, .ref a5, .ref a6, .ref a7, .ref a8, .ref a9, .ref a10, .int 0, .int 0, .int 0, .int 0])), (a9, .inl (g.2 4, 4, .inr (.inr (.inr (.inr (va_up (va_up (va_up (va_up (fun _ => none) 0 (some s0)) 1 (some s1)) 2 (some s2)) 3 (some s3)))))))] H := hP
  have hD : va_D A [(s0, .inr (6, [.ref t0, .int 0, .int 0, .int 0])), (s1, .inr (6, [.ref t1, .int 0, .int 0, .int 0])), (s2, .inr (6, [.ref t2, .int 0, .int 0, .int 0])), (s3, .inr (6, [.ref t3, .int 0, .int 0, .int 0])), (h0, .inr (11, [.ref a0, .ref a1, .ref a2, .ref a3, .ref a4, .ref a5, .ref a6, .ref a7, .ref a8, .ref a9, .ref a10, .int 0, .int 0, .int 0, .int 0])), (a9, .inl (g.2 4, 4, .inr (.inr (.inr (.inr (va_up (va_up (va_up (va_up (fun _ => none) 0 (some s0)) 1 (some s1)) 2 (some s2)) 3 (some s3)))))))] := hD
  subst hw
  by_cases b1 : k < 0
  · refine nx_v (v := .null) (by unfold r_c_sheetAt; rw [if_pos b1]; rfl) ?_
    refine lv_astoreN (lv' := [(4, .null), (0, .ref h0), (1, .int k), (2, .int i), (3, .int lane)]) hx hb dX11_cell_10 hl (by decide) rfl (fun ls hl => ?_)
    refine lv_aloadN hx hb dX11_cell_12 (lv_at hl 0 rfl) ?_
    refine lv_ifnullN (tgt := 24) hx hb dX11_cell_14 (by decide) ?_
    refine lv_ldc2 (v := -9223372036854775808) hx hb hown (hts (.constantLong RX11 239 (-9223372036854775808)) (by decide +kernel)) dX11_cell_24 ?_
    exact retL C hS () rfl (hP.pick [] rfl) (hD.sub [] rfl rfl) (Nat.le_of_ble_eq_true rfl) (Nat.le_of_ble_eq_true rfl) dX11_cell_27
  by_cases b2 : 4 ≤ k
  · refine nx_v (v := .null) (by unfold r_c_sheetAt; rw [if_neg b1, if_pos b2]; rfl) ?_
    refine lv_astoreN (lv' := [(4, .null), (0, .ref h0), (1, .int k), (2, .int i), (3, .int lane)]) hx hb dX11_cell_10 hl (by decide) rfl (fun ls hl => ?_)
    refine lv_aloadN hx hb dX11_cell_12 (lv_at hl 0 rfl) ?_
    refine lv_ifnullN (tgt := 24) hx hb dX11_cell_14 (by decide) ?_
    refine lv_ldc2 (v := -9223372036854775808) hx hb hown (hts (.constantLong RX11 239 (-9223372036854775808)) (by decide +kernel)) dX11_cell_24 ?_
    exact retL C hS () rfl (hP.pick [] rfl) (hD.sub [] rfl rfl) (Nat.le_of_ble_eq_true rfl) (Nat.le_of_ble_eq_true rfl) dX11_cell_27
  rcases in4 b1 b2 with e3 | e3 | e3 | e3
  · refine nx_v (v := .ref s0) (by unfold r_c_sheetAt; rw [if_neg b1, if_neg b2, e3]; rfl) ?_
    refine lv_astore (lv' := [(4, .ref s0), (0, .ref h0), (1, .int k), (2, .int i), (3, .int lane)]) hx hb dX11_cell_10 hl (by decide) rfl (fun ls hl => ?_)
    refine lv_aload hx hb dX11_cell_12 (lv_at hl 0 rfl) ?_
    refine lv_ifnull hx hb dX11_cell_14 ?_
    refine lv_iload_n hx hb dX11_cell_17 rfl (lv_at hl 4 rfl) ?_
    refine pureIS (As := [.int lane]) (rest := []) F (c_isLane l lane) 1 gX11_cell_X11_isLane rfl (by decide +kernel) rfl rfl ⟨(Nat.le_of_ble_eq_true rfl), (Nat.le_of_ble_eq_true rfl)⟩ (Nat.le_of_ble_eq_true rfl) (Nat.le_of_ble_eq_true rfl) rfl hl.1 rfl (Nat.le_of_ble_eq_true rfl) dX11_cell_18 ?_
    refine lv_if_ne (tgt := 28) hx hb dX11_cell_21 (by decide) (fun c4 => ?_) (fun c4 => ?_)
    · refine lv_aload_n hx hb dX11_cell_28 rfl (lv_at hl 1 rfl) ?_
      refine lv_aload hx hb dX11_cell_29 (lv_at hl 0 rfl) ?_
      refine lv_iload_n hx hb dX11_cell_31 rfl (lv_at hl 4 rfl) ?_
      refine callIV (As := [.int lane]) (rest := [.ref h0]) (wr := [(s1, .inr (6, [.ref t1, .int 0, .int 0, .int 0])), (s2, .inr (6, [.ref t2, .int 0, .int 0, .int 0])), (s3, .inr (6, [.ref t3, .int 0, .int 0, .int 0])), (h0, .inr (11, [.ref a0, .ref a1, .ref a2, .ref a3, .ref a4, .ref a5, .ref a6, .ref a7, .ref a8, .ref a9, .ref a10, .int 0, .int 0, .int 0, .int 0])), (a9, .inl (g.2 4, 4, .inr (.inr (.inr (.inr (va_up (va_up (va_up (va_up (fun _ => none) 0 (some s0)) 1 (some s1)) 2 (some s2)) 3 (some s3)))))))]) (Cn := RX6) C (c_faultTakenAs l g s0 t0 lane) 1 gX11_cell_X6_faultTakenAs rfl (by decide +kernel) ⟨(Nat.le_of_ble_eq_true rfl), (Nat.le_of_ble_eq_true rfl)⟩ [0] [1, 2, 3, 4, 5] hP hD hA hS rfl rfl rfl rfl (by decide) (k := 0) (ci := 6) rfl rfl rfl rfl hl.1 rfl (Nat.le_of_ble_eq_true rfl) dX11_cell_32 ⟨(Nat.le_of_ble_eq_true rfl), (Nat.le_of_ble_eq_true rfl)⟩ (fun r _u H locs hw hP hD hS => ?_)
      have hP : va_P g.1 vwCl [(s1, .inr (6, [.ref t1, .int 0, .int 0, .int 0])), (s2, .inr (6, [.ref t2, .int 0, .int 0, .int 0])), (s3, .inr (6, [.ref t3, .int 0, .int 0, .int 0])), (h0, .inr (11, [.ref a0, .ref a1, .ref a2, .ref a3, .ref a4, .ref a5, .ref a6, .ref a7, .ref a8, .ref a9, .ref a10, .int 0, .int 0, .int 0, .int 0])), (a9, .inl (g.2 4, 4, .inr (.inr (.inr (.inr (va_up (va_up (va_up (va_up (fun _ => none) 0 (some s0)) 1 (some s1)) 2 (some s2)) 3 (some s3))))))), (s0, .inr (6, [.ref t0, .int 0, .int 0, .int 0]))] H := hP
      have hD : va_D A [(s1, .inr (6, [.ref t1, .int 0, .int 0, .int 0])), (s2, .inr (6, [.ref t2, .int 0, .int 0, .int 0])), (s3, .inr (6, [.ref t3, .int 0, .int 0, .int 0])), (h0, .inr (11, [.ref a0, .ref a1, .ref a2, .ref a3, .ref a4, .ref a5, .ref a6, .ref a7, .ref a8, .ref a9, .ref a10, .int 0, .int 0, .int 0, .int 0])), (a9, .inl (g.2 4, 4, .inr (.inr (.inr (.inr (va_up (va_up (va_up (va_up (fun _ => none) 0 (some s0)) 1 (some s1)) 2 (some s2)) 3 (some s3))))))), (s0, .inr (6, [.ref t0, .int 0, .int 0, .int 0]))] := hD
      subst hw
      refine va_put (D := g.1) (ci := 11) (v := .int 1) (ty := .int) (C := RX11) (T := TX11) (N := 15) hx hb hts hi_X11_cell_X11 tyX11 tyX11_ok nmX11 hown hK hP hD hS 3 rfl rfl 11 (by decide) (hts (.fieldLink RX11 110 "OilPush" "latestFault" "I") (by decide +kernel)) (fun _ h => h) rfl (by decide +kernel) rfl rfl (Nat.le_of_ble_eq_true rfl) dX11_cell_35 (fun H locs hP hD hS => ?_)
      have hP : va_P g.1 vwCl [(s1, .inr (6, [.ref t1, .int 0, .int 0, .int 0])), (s2, .inr (6, [.ref t2, .int 0, .int 0, .int 0])), (s3, .inr (6, [.ref t3, .int 0, .int 0, .int 0])), (h0, .inr (11, [.ref a0, .ref a1, .ref a2, .ref a3, .ref a4, .ref a5, .ref a6, .ref a7, .ref a8, .ref a9, .ref a10, .int 1, .int 0, .int 0, .int 0])), (a9, .inl (g.2 4, 4, .inr (.inr (.inr (.inr (va_up (va_up (va_up (va_up (fun _ => none) 0 (some s0)) 1 (some s1)) 2 (some s2)) 3 (some s3))))))), (s0, .inr (6, [.ref t0, .int 0, .int 0, .int 0]))] H := hP
      have hD : va_D A [(s1, .inr (6, [.ref t1, .int 0, .int 0, .int 0])), (s2, .inr (6, [.ref t2, .int 0, .int 0, .int 0])), (s3, .inr (6, [.ref t3, .int 0, .int 0, .int 0])), (h0, .inr (11, [.ref a0, .ref a1, .ref a2, .ref a3, .ref a4, .ref a5, .ref a6, .ref a7, .ref a8, .ref a9, .ref a10, .int 1, .int 0, .int 0, .int 0])), (a9, .inl (g.2 4, 4, .inr (.inr (.inr (.inr (va_up (va_up (va_up (va_up (fun _ => none) 0 (some s0)) 1 (some s1)) 2 (some s2)) 3 (some s3))))))), (s0, .inr (6, [.ref t0, .int 0, .int 0, .int 0]))] := hD
      refine lv_aload_n hx hb dX11_cell_38 rfl (lv_at hl 1 rfl) ?_
      refine va_get (D := g.1) (ci := 11) (v := .int 1) (C := RX11) (T := TX11) (N := 15) hx hb hts hi_X11_cell_X11 hown hK hP 3 rfl rfl 11 (by decide) (hts (.fieldLink RX11 110 "OilPush" "latestFault" "I") (by decide +kernel)) (fun _ h => h) rfl dX11_cell_39 ?_
      refine lv_if_eq (tgt := 49) hx hb dX11_cell_42 (by decide) (fun cc0 => absurd cc0 (by decide)) (fun _ => ?_)
      refine lv_ldc2 (v := -9223372036854775808) hx hb hown (hts (.constantLong RX11 239 (-9223372036854775808)) (by decide +kernel)) dX11_cell_45 ?_
      exact retL C hS () rfl (hP.pick [] rfl) (hD.sub [] rfl rfl) (Nat.le_of_ble_eq_true rfl) (Nat.le_of_ble_eq_true rfl) dX11_cell_48
    refine lv_ldc2 (v := -9223372036854775808) hx hb hown (hts (.constantLong RX11 239 (-9223372036854775808)) (by decide +kernel)) dX11_cell_24 ?_
    exact retL C hS () rfl (hP.pick [] rfl) (hD.sub [] rfl rfl) (Nat.le_of_ble_eq_true rfl) (Nat.le_of_ble_eq_true rfl) dX11_cell_27
  · refine nx_v (v := .ref s1) (by unfold r_c_sheetAt; rw [if_neg b1, if_neg b2, e3]; rfl) ?_
    refine lv_astore (lv' := [(4, .ref s1), (0, .ref h0), (1, .int k), (2, .int i), (3, .int lane)]) hx hb dX11_cell_10 hl (by decide) rfl (fun ls hl => ?_)
    refine lv_aload hx hb dX11_cell_12 (lv_at hl 0 rfl) ?_
    refine lv_ifnull hx hb dX11_cell_14 ?_
    refine lv_iload_n hx hb dX11_cell_17 rfl (lv_at hl 4 rfl) ?_
    refine pureIS (As := [.int lane]) (rest := []) F (c_isLane l lane) 1 gX11_cell_X11_isLane rfl (by decide +kernel) rfl rfl ⟨(Nat.le_of_ble_eq_true rfl), (Nat.le_of_ble_eq_true rfl)⟩ (Nat.le_of_ble_eq_true rfl) (Nat.le_of_ble_eq_true rfl) rfl hl.1 rfl (Nat.le_of_ble_eq_true rfl) dX11_cell_18 ?_
    refine lv_if_ne (tgt := 28) hx hb dX11_cell_21 (by decide) (fun c5 => ?_) (fun c5 => ?_)
    · refine lv_aload_n hx hb dX11_cell_28 rfl (lv_at hl 1 rfl) ?_
      refine lv_aload hx hb dX11_cell_29 (lv_at hl 0 rfl) ?_
      refine lv_iload_n hx hb dX11_cell_31 rfl (lv_at hl 4 rfl) ?_
      refine callIV (As := [.int lane]) (rest := [.ref h0]) (wr := [(s0, .inr (6, [.ref t0, .int 0, .int 0, .int 0])), (s2, .inr (6, [.ref t2, .int 0, .int 0, .int 0])), (s3, .inr (6, [.ref t3, .int 0, .int 0, .int 0])), (h0, .inr (11, [.ref a0, .ref a1, .ref a2, .ref a3, .ref a4, .ref a5, .ref a6, .ref a7, .ref a8, .ref a9, .ref a10, .int 0, .int 0, .int 0, .int 0])), (a9, .inl (g.2 4, 4, .inr (.inr (.inr (.inr (va_up (va_up (va_up (va_up (fun _ => none) 0 (some s0)) 1 (some s1)) 2 (some s2)) 3 (some s3)))))))]) (Cn := RX6) C (c_faultTakenAs l g s1 t1 lane) 1 gX11_cell_X6_faultTakenAs rfl (by decide +kernel) ⟨(Nat.le_of_ble_eq_true rfl), (Nat.le_of_ble_eq_true rfl)⟩ [1] [0, 2, 3, 4, 5] hP hD hA hS rfl rfl rfl rfl (by decide) (k := 1) (ci := 6) rfl rfl rfl rfl hl.1 rfl (Nat.le_of_ble_eq_true rfl) dX11_cell_32 ⟨(Nat.le_of_ble_eq_true rfl), (Nat.le_of_ble_eq_true rfl)⟩ (fun r _u H locs hw hP hD hS => ?_)
      have hP : va_P g.1 vwCl [(s0, .inr (6, [.ref t0, .int 0, .int 0, .int 0])), (s2, .inr (6, [.ref t2, .int 0, .int 0, .int 0])), (s3, .inr (6, [.ref t3, .int 0, .int 0, .int 0])), (h0, .inr (11, [.ref a0, .ref a1, .ref a2, .ref a3, .ref a4, .ref a5, .ref a6, .ref a7, .ref a8, .ref a9, .ref a10, .int 0, .int 0, .int 0, .int 0])), (a9, .inl (g.2 4, 4, .inr (.inr (.inr (.inr (va_up (va_up (va_up (va_up (fun _ => none) 0 (some s0)) 1 (some s1)) 2 (some s2)) 3 (some s3))))))), (s1, .inr (6, [.ref t1, .int 0, .int 0, .int 0]))] H := hP
      have hD : va_D A [(s0, .inr (6, [.ref t0, .int 0, .int 0, .int 0])), (s2, .inr (6, [.ref t2, .int 0, .int 0, .int 0])), (s3, .inr (6, [.ref t3, .int 0, .int 0, .int 0])), (h0, .inr (11, [.ref a0, .ref a1, .ref a2, .ref a3, .ref a4, .ref a5, .ref a6, .ref a7, .ref a8, .ref a9, .ref a10, .int 0, .int 0, .int 0, .int 0])), (a9, .inl (g.2 4, 4, .inr (.inr (.inr (.inr (va_up (va_up (va_up (va_up (fun _ => none) 0 (some s0)) 1 (some s1)) 2 (some s2)) 3 (some s3))))))), (s1, .inr (6, [.ref t1, .int 0, .int 0, .int 0]))] := hD
      subst hw
      refine va_put (D := g.1) (ci := 11) (v := .int 1) (ty := .int) (C := RX11) (T := TX11) (N := 15) hx hb hts hi_X11_cell_X11 tyX11 tyX11_ok nmX11 hown hK hP hD hS 3 rfl rfl 11 (by decide) (hts (.fieldLink RX11 110 "OilPush" "latestFault" "I") (by decide +kernel)) (fun _ h => h) rfl (by decide +kernel) rfl rfl (Nat.le_of_ble_eq_true rfl) dX11_cell_35 (fun H locs hP hD hS => ?_)
      have hP : va_P g.1 vwCl [(s0, .inr (6, [.ref t0, .int 0, .int 0, .int 0])), (s2, .inr (6, [.ref t2, .int 0, .int 0, .int 0])), (s3, .inr (6, [.ref t3, .int 0, .int 0, .int 0])), (h0, .inr (11, [.ref a0, .ref a1, .ref a2, .ref a3, .ref a4, .ref a5, .ref a6, .ref a7, .ref a8, .ref a9, .ref a10, .int 1, .int 0, .int 0, .int 0])), (a9, .inl (g.2 4, 4, .inr (.inr (.inr (.inr (va_up (va_up (va_up (va_up (fun _ => none) 0 (some s0)) 1 (some s1)) 2 (some s2)) 3 (some s3))))))), (s1, .inr (6, [.ref t1, .int 0, .int 0, .int 0]))] H := hP
      have hD : va_D A [(s0, .inr (6, [.ref t0, .int 0, .int 0, .int 0])), (s2, .inr (6, [.ref t2, .int 0, .int 0, .int 0])), (s3, .inr (6, [.ref t3, .int 0, .int 0, .int 0])), (h0, .inr (11, [.ref a0, .ref a1, .ref a2, .ref a3, .ref a4, .ref a5, .ref a6, .ref a7, .ref a8, .ref a9, .ref a10, .int 1, .int 0, .int 0, .int 0])), (a9, .inl (g.2 4, 4, .inr (.inr (.inr (.inr (va_up (va_up (va_up (va_up (fun _ => none) 0 (some s0)) 1 (some s1)) 2 (some s2)) 3 (some s3))))))), (s1, .inr (6, [.ref t1, .int 0, .int 0, .int 0]))] := hD
      refine lv_aload_n hx hb dX11_cell_38 rfl (lv_at hl 1 rfl) ?_
      refine va_get (D := g.1) (ci := 11) (v := .int 1) (C := RX11) (T := TX11) (N := 15) hx hb hts hi_X11_cell_X11 hown hK hP 3 rfl rfl 11 (by decide) (hts (.fieldLink RX11 110 "OilPush" "latestFault" "I") (by decide +kernel)) (fun _ h => h) rfl dX11_cell_39 ?_
      refine lv_if_eq (tgt := 49) hx hb dX11_cell_42 (by decide) (fun cc0 => absurd cc0 (by decide)) (fun _ => ?_)
      refine lv_ldc2 (v := -9223372036854775808) hx hb hown (hts (.constantLong RX11 239 (-9223372036854775808)) (by decide +kernel)) dX11_cell_45 ?_
      exact retL C hS () rfl (hP.pick [] rfl) (hD.sub [] rfl rfl) (Nat.le_of_ble_eq_true rfl) (Nat.le_of_ble_eq_true rfl) dX11_cell_48
    refine lv_ldc2 (v := -9223372036854775808) hx hb hown (hts (.constantLong RX11 239 (-9223372036854775808)) (by decide +kernel)) dX11_cell_24 ?_
    exact retL C hS () rfl (hP.pick [] rfl) (hD.sub [] rfl rfl) (Nat.le_of_ble_eq_true rfl) (Nat.le_of_ble_eq_true rfl) dX11_cell_27
  · refine nx_v (v := .ref s2) (by unfold r_c_sheetAt; rw [if_neg b1, if_neg b2, e3]; rfl) ?_
    refine lv_astore (lv' := [(4, .ref s2), (0, .ref h0), (1, .int k), (2, .int i), (3, .int lane)]) hx hb dX11_cell_10 hl (by decide) rfl (fun ls hl => ?_)
    refine lv_aload hx hb dX11_cell_12 (lv_at hl 0 rfl) ?_
    refine lv_ifnull hx hb dX11_cell_14 ?_
    refine lv_iload_n hx hb dX11_cell_17 rfl (lv_at hl 4 rfl) ?_
    refine pureIS (As := [.int lane]) (rest := []) F (c_isLane l lane) 1 gX11_cell_X11_isLane rfl (by decide +kernel) rfl rfl ⟨(Nat.le_of_ble_eq_true rfl), (Nat.le_of_ble_eq_true rfl)⟩ (Nat.le_of_ble_eq_true rfl) (Nat.le_of_ble_eq_true rfl) rfl hl.1 rfl (Nat.le_of_ble_eq_true rfl) dX11_cell_18 ?_
    refine lv_if_ne (tgt := 28) hx hb dX11_cell_21 (by decide) (fun c6 => ?_) (fun c6 => ?_)
    · refine lv_aload_n hx hb dX11_cell_28 rfl (lv_at hl 1 rfl) ?_
      refine lv_aload hx hb dX11_cell_29 (lv_at hl 0 rfl) ?_
      refine lv_iload_n hx hb dX11_cell_31 rfl (lv_at hl 4 rfl) ?_
      refine callIV (As := [.int lane]) (rest := [.ref h0]) (wr := [(s0, .inr (6, [.ref t0, .int 0, .int 0, .int 0])), (s1, .inr (6, [.ref t1, .int 0, .int 0, .int 0])), (s3, .inr (6, [.ref t3, .int 0, .int 0, .int 0])), (h0, .inr (11, [.ref a0, .ref a1, .ref a2, .ref a3, .ref a4, .ref a5, .ref a6, .ref a7, .ref a8, .ref a9, .ref a10, .int 0, .int 0, .int 0, .int 0])), (a9, .inl (g.2 4, 4, .inr (.inr (.inr (.inr (va_up (va_up (va_up (va_up (fun _ => none) 0 (some s0)) 1 (some s1)) 2 (some s2)) 3 (some s3)))))))]) (Cn := RX6) C (c_faultTakenAs l g s2 t2 lane) 1 gX11_cell_X6_faultTakenAs rfl (by decide +kernel) ⟨(Nat.le_of_ble_eq_true rfl), (Nat.le_of_ble_eq_true rfl)⟩ [2] [0, 1, 3, 4, 5] hP hD hA hS rfl rfl rfl rfl (by decide) (k := 2) (ci := 6) rfl rfl rfl rfl hl.1 rfl (Nat.le_of_ble_eq_true rfl) dX11_cell_32 ⟨(Nat.le_of_ble_eq_true rfl), (Nat.le_of_ble_eq_true rfl)⟩ (fun r _u H locs hw hP hD hS => ?_)
      have hP : va_P g.1 vwCl [(s0, .inr (6, [.ref t0, .int 0, .int 0, .int 0])), (s1, .inr (6, [.ref t1, .int 0, .int 0, .int 0])), (s3, .inr (6, [.ref t3, .int 0, .int 0, .int 0])), (h0, .inr (11, [.ref a0, .ref a1, .ref a2, .ref a3, .ref a4, .ref a5, .ref a6, .ref a7, .ref a8, .ref a9, .ref a10, .int 0, .int 0, .int 0, .int 0])), (a9, .inl (g.2 4, 4, .inr (.inr (.inr (.inr (va_up (va_up (va_up (va_up (fun _ => none) 0 (some s0)) 1 (some s1)) 2 (some s2)) 3 (some s3))))))), (s2, .inr (6, [.ref t2, .int 0, .int 0, .int 0]))] H := hP
      have hD : va_D A [(s0, .inr (6, [.ref t0, .int 0, .int 0, .int 0])), (s1, .inr (6, [.ref t1, .int 0, .int 0, .int 0])), (s3, .inr (6, [.ref t3, .int 0, .int 0, .int 0])), (h0, .inr (11, [.ref a0, .ref a1, .ref a2, .ref a3, .ref a4, .ref a5, .ref a6, .ref a7, .ref a8, .ref a9, .ref a10, .int 0, .int 0, .int 0, .int 0])), (a9, .inl (g.2 4, 4, .inr (.inr (.inr (.inr (va_up (va_up (va_up (va_up (fun _ => none) 0 (some s0)) 1 (some s1)) 2 (some s2)) 3 (some s3))))))), (s2, .inr (6, [.ref t2, .int 0, .int 0, .int 0]))] := hD
      subst hw
      refine va_put (D := g.1) (ci := 11) (v := .int 1) (ty := .int) (C := RX11) (T := TX11) (N := 15) hx hb hts hi_X11_cell_X11 tyX11 tyX11_ok nmX11 hown hK hP hD hS 3 rfl rfl 11 (by decide) (hts (.fieldLink RX11 110 "OilPush" "latestFault" "I") (by decide +kernel)) (fun _ h => h) rfl (by decide +kernel) rfl rfl (Nat.le_of_ble_eq_true rfl) dX11_cell_35 (fun H locs hP hD hS => ?_)
      have hP : va_P g.1 vwCl [(s0, .inr (6, [.ref t0, .int 0, .int 0, .int 0])), (s1, .inr (6, [.ref t1, .int 0, .int 0, .int 0])), (s3, .inr (6, [.ref t3, .int 0, .int 0, .int 0])), (h0, .inr (11, [.ref a0, .ref a1, .ref a2, .ref a3, .ref a4, .ref a5, .ref a6, .ref a7, .ref a8, .ref a9, .ref a10, .int 1, .int 0, .int 0, .int 0])), (a9, .inl (g.2 4, 4, .inr (.inr (.inr (.inr (va_up (va_up (va_up (va_up (fun _ => none) 0 (some s0)) 1 (some s1)) 2 (some s2)) 3 (some s3))))))), (s2, .inr (6, [.ref t2, .int 0, .int 0, .int 0]))] H := hP
      have hD : va_D A [(s0, .inr (6, [.ref t0, .int 0, .int 0, .int 0])), (s1, .inr (6, [.ref t1, .int 0, .int 0, .int 0])), (s3, .inr (6, [.ref t3, .int 0, .int 0, .int 0])), (h0, .inr (11, [.ref a0, .ref a1, .ref a2, .ref a3, .ref a4, .ref a5, .ref a6, .ref a7, .ref a8, .ref a9, .ref a10, .int 1, .int 0, .int 0, .int 0])), (a9, .inl (g.2 4, 4, .inr (.inr (.inr (.inr (va_up (va_up (va_up (va_up (fun _ => none) 0 (some s0)) 1 (some s1)) 2 (some s2)) 3 (some s3))))))), (s2, .inr (6, [.ref t2, .int 0, .int 0, .int 0]))] := hD
      refine lv_aload_n hx hb dX11_cell_38 rfl (lv_at hl 1 rfl) ?_
      refine va_get (D := g.1) (ci := 11) (v := .int 1) (C := RX11) (T := TX11) (N := 15) hx hb hts hi_X11_cell_X11 hown hK hP 3 rfl rfl 11 (by decide) (hts (.fieldLink RX11 110 "OilPush" "latestFault" "I") (by decide +kernel)) (fun _ h => h) rfl dX11_cell_39 ?_
      refine lv_if_eq (tgt := 49) hx hb dX11_cell_42 (by decide) (fun cc0 => absurd cc0 (by decide)) (fun _ => ?_)
      refine lv_ldc2 (v := -9223372036854775808) hx hb hown (hts (.constantLong RX11 239 (-9223372036854775808)) (by decide +kernel)) dX11_cell_45 ?_
      exact retL C hS () rfl (hP.pick [] rfl) (hD.sub [] rfl rfl) (Nat.le_of_ble_eq_true rfl) (Nat.le_of_ble_eq_true rfl) dX11_cell_48
    refine lv_ldc2 (v := -9223372036854775808) hx hb hown (hts (.constantLong RX11 239 (-9223372036854775808)) (by decide +kernel)) dX11_cell_24 ?_
    exact retL C hS () rfl (hP.pick [] rfl) (hD.sub [] rfl rfl) (Nat.le_of_ble_eq_true rfl) (Nat.le_of_ble_eq_true rfl) dX11_cell_27
  · refine nx_v (v := .ref s3) (by unfold r_c_sheetAt; rw [if_neg b1, if_neg b2, e3]; rfl) ?_
    refine lv_astore (lv' := [(4, .ref s3), (0, .ref h0), (1, .int k), (2, .int i), (3, .int lane)]) hx hb dX11_cell_10 hl (by decide) rfl (fun ls hl => ?_)
    refine lv_aload hx hb dX11_cell_12 (lv_at hl 0 rfl) ?_
    refine lv_ifnull hx hb dX11_cell_14 ?_
    refine lv_iload_n hx hb dX11_cell_17 rfl (lv_at hl 4 rfl) ?_
    refine pureIS (As := [.int lane]) (rest := []) F (c_isLane l lane) 1 gX11_cell_X11_isLane rfl (by decide +kernel) rfl rfl ⟨(Nat.le_of_ble_eq_true rfl), (Nat.le_of_ble_eq_true rfl)⟩ (Nat.le_of_ble_eq_true rfl) (Nat.le_of_ble_eq_true rfl) rfl hl.1 rfl (Nat.le_of_ble_eq_true rfl) dX11_cell_18 ?_
    refine lv_if_ne (tgt := 28) hx hb dX11_cell_21 (by decide) (fun c7 => ?_) (fun c7 => ?_)
    · refine lv_aload_n hx hb dX11_cell_28 rfl (lv_at hl 1 rfl) ?_
      refine lv_aload hx hb dX11_cell_29 (lv_at hl 0 rfl) ?_
      refine lv_iload_n hx hb dX11_cell_31 rfl (lv_at hl 4 rfl) ?_
      refine callIV (As := [.int lane]) (rest := [.ref h0]) (wr := [(s0, .inr (6, [.ref t0, .int 0, .int 0, .int 0])), (s1, .inr (6, [.ref t1, .int 0, .int 0, .int 0])), (s2, .inr (6, [.ref t2, .int 0, .int 0, .int 0])), (h0, .inr (11, [.ref a0, .ref a1, .ref a2, .ref a3, .ref a4, .ref a5, .ref a6, .ref a7, .ref a8, .ref a9, .ref a10, .int 0, .int 0, .int 0, .int 0])), (a9, .inl (g.2 4, 4, .inr (.inr (.inr (.inr (va_up (va_up (va_up (va_up (fun _ => none) 0 (some s0)) 1 (some s1)) 2 (some s2)) 3 (some s3)))))))]) (Cn := RX6) C (c_faultTakenAs l g s3 t3 lane) 1 gX11_cell_X6_faultTakenAs rfl (by decide +kernel) ⟨(Nat.le_of_ble_eq_true rfl), (Nat.le_of_ble_eq_true rfl)⟩ [3] [0, 1, 2, 4, 5] hP hD hA hS rfl rfl rfl rfl (by decide) (k := 3) (ci := 6) rfl rfl rfl rfl hl.1 rfl (Nat.le_of_ble_eq_true rfl) dX11_cell_32 ⟨(Nat.le_of_ble_eq_true rfl), (Nat.le_of_ble_eq_true rfl)⟩ (fun r _u H locs hw hP hD hS => ?_)
      have hP : va_P g.1 vwCl [(s0, .inr (6, [.ref t0, .int 0, .int 0, .int 0])), (s1, .inr (6, [.ref t1, .int 0, .int 0, .int 0])), (s2, .inr (6, [.ref t2, .int 0, .int 0, .int 0])), (h0, .inr (11, [.ref a0, .ref a1, .ref a2, .ref a3, .ref a4, .ref a5, .ref a6, .ref a7, .ref a8, .ref a9, .ref a10, .int 0, .int 0, .int 0, .int 0])), (a9, .inl (g.2 4, 4, .inr (.inr (.inr (.inr (va_up (va_up (va_up (va_up (fun _ => none) 0 (some s0)) 1 (some s1)) 2 (some s2)) 3 (some s3))))))), (s3, .inr (6, [.ref t3, .int 0, .int 0, .int 0]))] H := hP
      have hD : va_D A [(s0, .inr (6, [.ref t0, .int 0, .int 0, .int 0])), (s1, .inr (6, [.ref t1, .int 0, .int 0, .int 0])), (s2, .inr (6, [.ref t2, .int 0, .int 0, .int 0])), (h0, .inr (11, [.ref a0, .ref a1, .ref a2, .ref a3, .ref a4, .ref a5, .ref a6, .ref a7, .ref a8, .ref a9, .ref a10, .int 0, .int 0, .int 0, .int 0])), (a9, .inl (g.2 4, 4, .inr (.inr (.inr (.inr (va_up (va_up (va_up (va_up (fun _ => none) 0 (some s0)) 1 (some s1)) 2 (some s2)) 3 (some s3))))))), (s3, .inr (6, [.ref t3, .int 0, .int 0, .int 0]))] := hD
      subst hw
      refine va_put (D := g.1) (ci := 11) (v := .int 1) (ty := .int) (C := RX11) (T := TX11) (N := 15) hx hb hts hi_X11_cell_X11 tyX11 tyX11_ok nmX11 hown hK hP hD hS 3 rfl rfl 11 (by decide) (hts (.fieldLink RX11 110 "OilPush" "latestFault" "I") (by decide +kernel)) (fun _ h => h) rfl (by decide +kernel) rfl rfl (Nat.le_of_ble_eq_true rfl) dX11_cell_35 (fun H locs hP hD hS => ?_)
      have hP : va_P g.1 vwCl [(s0, .inr (6, [.ref t0, .int 0, .int 0, .int 0])), (s1, .inr (6, [.ref t1, .int 0, .int 0, .int 0])), (s2, .inr (6, [.ref t2, .int 0, .int 0, .int 0])), (h0, .inr (11, [.ref a0, .ref a1, .ref a2, .ref a3, .ref a4, .ref a5, .ref a6, .ref a7, .ref a8, .ref a9, .ref a10, .int 1, .int 0, .int 0, .int 0])), (a9, .inl (g.2 4, 4, .inr (.inr (.inr (.inr (va_up (va_up (va_up (va_up (fun _ => none) 0 (some s0)) 1 (some s1)) 2 (some s2)) 3 (some s3))))))), (s3, .inr (6, [.ref t3, .int 0, .int 0, .int 0]))] H := hP
      have hD : va_D A [(s0, .inr (6, [.ref t0, .int 0, .int 0, .int 0])), (s1, .inr (6, [.ref t1, .int 0, .int 0, .int 0])), (s2, .inr (6, [.ref t2, .int 0, .int 0, .int 0])), (h0, .inr (11, [.ref a0, .ref a1, .ref a2, .ref a3, .ref a4, .ref a5, .ref a6, .ref a7, .ref a8, .ref a9, .ref a10, .int 1, .int 0, .int 0, .int 0])), (a9, .inl (g.2 4, 4, .inr (.inr (.inr (.inr (va_up (va_up (va_up (va_up (fun _ => none) 0 (some s0)) 1 (some s1)) 2 (some s2)) 3 (some s3))))))), (s3, .inr (6, [.ref t3, .int 0, .int 0, .int 0]))] := hD
      refine lv_aload_n hx hb dX11_cell_38 rfl (lv_at hl 1 rfl) ?_
      refine va_get (D := g.1) (ci := 11) (v := .int 1) (C := RX11) (T := TX11) (N := 15) hx hb hts hi_X11_cell_X11 hown hK hP 3 rfl rfl 11 (by decide) (hts (.fieldLink RX11 110 "OilPush" "latestFault" "I") (by decide +kernel)) (fun _ h => h) rfl dX11_cell_39 ?_
      refine lv_if_eq (tgt := 49) hx hb dX11_cell_42 (by decide) (fun cc0 => absurd cc0 (by decide)) (fun _ => ?_)
      refine lv_ldc2 (v := -9223372036854775808) hx hb hown (hts (.constantLong RX11 239 (-9223372036854775808)) (by decide +kernel)) dX11_cell_45 ?_
      exact retL C hS () rfl (hP.pick [] rfl) (hD.sub [] rfl rfl) (Nat.le_of_ble_eq_true rfl) (Nat.le_of_ble_eq_true rfl) dX11_cell_48
    refine lv_ldc2 (v := -9223372036854775808) hx hb hown (hts (.constantLong RX11 239 (-9223372036854775808)) (by decide +kernel)) dX11_cell_24 ?_
    exact retL C hS () rfl (hP.pick [] rfl) (hD.sub [] rfl rfl) (Nat.le_of_ble_eq_true rfl) (Nat.le_of_ble_eq_true rfl) dX11_cell_27
theorem hi_X11_copy_X11 : ∀ w ∈ wsX110, w ∈ wsX11_copy := fun w h => List.mem_cons_of_mem _ (List.mem_append_left _ (List.mem_append_right _ h))
theorem hi_X11_copy_X6 : ∀ w ∈ wsX60, w ∈ wsX11_copy := fun w h => List.mem_cons_of_mem _ (List.mem_append_right _ h)
def r_x_copy (k : Int32) (oth : Int32) : Int32 := (if k < 0 then (if oth < 0 then (-1) else (if 4 ≤ oth then (-1) else (-1))) else (if 4 ≤ k then (if oth < 0 then (-1) else (if 4 ≤ oth then (-1) else (-1))) else (if oth < 0 then (-1) else (if 4 ≤ oth then (-1) else ((-10) - 1)))))
set_option maxRecDepth 100000 in
set_option maxHeartbeats 4000000 in
theorem x_copy (l : Launch) (g : Gt) (h0 : Nat) (a0 : Nat) (a1 : Nat) (a2 : Nat) (a3 : Nat) (a4 : Nat) (a5 : Nat) (a6 : Nat) (a7 : Nat) (a8 : Nat) (a9 : Nat) (a10 : Nat) (s0 : Nat) (s1 : Nat) (s2 : Nat) (s3 : Nat) (t0 : Nat) (t1 : Nat) (t2 : Nat) (t3 : Nat) (k : Int32) (i : Int32) (oth : Int32) (j : Int32) (n : Int32)  : Ctr l g yX11_copy wsX11_copy ({ frames := 1, cells := 0, slots := 0, locals := 21 } : Room) [.ref h0, .int k, .int i, .int oth, .int j, .int n] [(h0, .inr (11, [.ref a0, .ref a1, .ref a2, .ref a3, .ref a4, .ref a5, .ref a6, .ref a7, .ref a8, .ref a9, .ref a10, .int 0, .int 0, .int 0, .int 0])), (a9, .inl (g.2 4, 4, .inr (.inr (.inr (.inr (va_up (va_up (va_up (va_up (fun _ => none) 0 (some s0)) 1 (some s1)) 2 (some s2)) 3 (some s3))))))), (s0, .inr (6, [.ref t0, .int 0, .int 0, .int 0])), (s1, .inr (6, [.ref t1, .int 0, .int 0, .int 0])), (s2, .inr (6, [.ref t2, .int 0, .int 0, .int 0])), (s3, .inr (6, [.ref t3, .int 0, .int 0, .int 0]))] (fun A => QI g A (fun r (_ : Unit) => r = (r_x_copy k oth)) (fun _u : Unit => [])) := by
  refine Ctr.of (cc := cX11_copy) (maxL := 8) (ret := (some .int)) (by decide) rfl (Nat.le_of_ble_eq_true rfl) ?_
  intro p e s m below meth c A ls H C hP hD hA hS hl
  obtain ⟨hx, hb, hr, hts, hown, hlocks, hml, hin, hKN⟩ := id C
  have hK := hKN.1
  have hN := hKN.2
  have F : CallFix p m c cX11_copy 8 s _ wsX11_copy yX11_copy.cls := ⟨hx, hb, hml, hown, hts⟩
  have hl : lv_has ls 8 [(0, .ref h0), (1, .int k), (2, .int i), (3, .int oth), (4, .int j), (5, .int n)] := hl
  refine lv_aload_n hx hb dX11_copy_0 rfl (lv_at hl 0 rfl) ?_
  refine lv_iconst (v := 0) hx hb dX11_copy_1 (by decide) ?_
  refine va_put (D := g.1) (ci := 11) (v := .int 0) (ty := .int) (C := RX11) (T := TX11) (N := 15) hx hb hts hi_X11_copy_X11 tyX11 tyX11_ok nmX11 hown hK hP hD hS 0 rfl rfl 11 (by decide) (hts (.fieldLink RX11 110 "OilPush" "latestFault" "I") (by decide +kernel)) (fun _ h => h) rfl (by decide +kernel) rfl rfl (Nat.le_of_ble_eq_true rfl) dX11_copy_2 (fun H locs hP hD hS => ?_)
  have hP : va_P g.1 vwCl [(h0, .inr (11, [.ref a0, .ref a1, .ref a2, .ref a3, .ref a4, .ref a5, .ref a6, .ref a7, .ref a8, .ref a9, .ref a10, .int 0, .int 0, .int 0, .int 0])), (a9, .inl (g.2 4, 4, .inr (.inr (.inr (.inr (va_up (va_up (va_up (va_up (fun _ => none) 0 (some s0)) 1 (some s1)) 2 (some s2)) 3 (some s3))))))), (s0, .inr (6, [.ref t0, .int 0, .int 0, .int 0])), (s1, .inr (6, [.ref t1, .int 0, .int 0, .int 0])), (s2, .inr (6, [.ref t2, .int 0, .int 0, .int 0])), (s3, .inr (6, [.ref t3, .int 0, .int 0, .int 0]))] H := hP
  have hD : va_D A [(h0, .inr (11, [.ref a0, .ref a1, .ref a2, .ref a3, .ref a4, .ref a5, .ref a6, .ref a7, .ref a8, .ref a9, .ref a10, .int 0, .int 0, .int 0, .int 0])), (a9, .inl (g.2 4, 4, .inr (.inr (.inr (.inr (va_up (va_up (va_up (va_up (fun _ => none) 0 (some s0)) 1 (some s1)) 2 (some s2)) 3 (some s3))))))), (s0, .inr (6, [.ref t0, .int 0, .int 0, .int 0])), (s1, .inr (6, [.ref t1, .int 0, .int 0, .int 0])), (s2, .inr (6, [.ref t2, .int 0, .int 0, .int 0])), (s3, .inr (6, [.ref t3, .int 0, .int 0, .int 0]))] := hD
  refine lv_aload_n hx hb dX11_copy_5 rfl (lv_at hl 0 rfl) ?_
  refine lv_iload_n hx hb dX11_copy_6 rfl (lv_at hl 1 rfl) ?_
  refine callQV (As := [.int k]) (rest := []) (wr := [(s0, .inr (6, [.ref t0, .int 0, .int 0, .int 0])), (s1, .inr (6, [.ref t1, .int 0, .int 0, .int 0])), (s2, .inr (6, [.ref t2, .int 0, .int 0, .int 0])), (s3, .inr (6, [.ref t3, .int 0, .int 0, .int 0]))]) (Cn := RX11) C (c_sheetAt l g h0 a0 a1 a2 a3 a4 a5 a6 a7 a8 a9 a10 s0 s1 s2 s3 k) 1 gX11_copy_X11_sheetAt rfl (by decide +kernel) ⟨(Nat.le_of_ble_eq_true rfl), (Nat.le_of_ble_eq_true rfl)⟩ [0, 1] [2, 3, 4, 5] hP hD hA hS rfl rfl rfl rfl (by decide) (k := 0) (ci := 11) rfl rfl rfl rfl hl.1 rfl (Nat.le_of_ble_eq_true rfl) dX11_copy_7 ⟨(Nat.le_of_ble_eq_true rfl), (Nat.le_of_ble_eq_true rfl)⟩ (fun r _u H locs hw hP hD hS => ?_)
  have hP : va_P g.1 vwCl [(s0, .inr (6, [.ref t0, .int 0, .int 0, .int 0])), (s1, .inr (6, [.ref t1, .int 0, .int 0, .int 0])), (s2, .inr (6, [.ref t2, .int 0, .int 0, .int 0])), (s3, .inr (6, [.ref t3, .int 0, .int 0, .int 0])), (h0, .inr (11, [.ref a0, .ref a1, .ref a2, .ref a3, .ref a4, .ref a5, .ref a6, .ref a7, .ref a8, .ref a9, .ref a10, .int 0, .int 0, .int 0, .int 0])), (a9, .inl (g.2 4, 4, .inr (.inr (.inr (.inr (va_up (va_up (va_up (va_up (fun _ => none) 0 (some s0)) 1 (some s1)) 2 (some s2)) 3 (some s3)))))))] H := hP
  have hD : va_D A [(s0, .inr (6, [.ref t0, .int 0, .int 0, .int 0])), (s1, .inr (6, [.ref t1, .int 0, .int 0, .int 0])), (s2, .inr (6, [.ref t2, .int 0, .int 0, .int 0])), (s3, .inr (6, [.ref t3, .int 0, .int 0, .int 0])), (h0, .inr (11, [.ref a0, .ref a1, .ref a2, .ref a3, .ref a4, .ref a5, .ref a6, .ref a7, .ref a8, .ref a9, .ref a10, .int 0, .int 0, .int 0, .int 0])), (a9, .inl (g.2 4, 4, .inr (.inr (.inr (.inr (va_up (va_up (va_up (va_up (fun _ => none) 0 (some s0)) 1 (some s1)) 2 (some s2)) 3 (some s3)))))))] := hD
  subst hw
  by_cases b1 : k < 0
  · refine nx_v (v := .null) (by unfold r_c_sheetAt; rw [if_pos b1]; rfl) ?_
    refine lv_astoreN (lv' := [(6, .null), (0, .ref h0), (1, .int k), (2, .int i), (3, .int oth), (4, .int j), (5, .int n)]) hx hb dX11_copy_10 hl (by decide) rfl (fun ls hl => ?_)
    refine lv_aload_n hx hb dX11_copy_12 rfl (lv_at hl 1 rfl) ?_
    refine lv_iload_n hx hb dX11_copy_13 rfl (lv_at hl 4 rfl) ?_
    refine callQV (As := [.int oth]) (rest := []) (wr := [(s0, .inr (6, [.ref t0, .int 0, .int 0, .int 0])), (s1, .inr (6, [.ref t1, .int 0, .int 0, .int 0])), (s2, .inr (6, [.ref t2, .int 0, .int 0, .int 0])), (s3, .inr (6, [.ref t3, .int 0, .int 0, .int 0]))]) (Cn := RX11) C (c_sheetAt l g h0 a0 a1 a2 a3 a4 a5 a6 a7 a8 a9 a10 s0 s1 s2 s3 oth) 1 gX11_copy_X11_sheetAt rfl (by decide +kernel) ⟨(Nat.le_of_ble_eq_true rfl), (Nat.le_of_ble_eq_true rfl)⟩ [4, 5] [0, 1, 2, 3] hP hD hA hS rfl rfl rfl rfl (by decide) (k := 4) (ci := 11) rfl rfl rfl rfl hl.1 rfl (Nat.le_of_ble_eq_true rfl) dX11_copy_14 ⟨(Nat.le_of_ble_eq_true rfl), (Nat.le_of_ble_eq_true rfl)⟩ (fun r _u H locs hw hP hD hS => ?_)
    have hP : va_P g.1 vwCl [(s0, .inr (6, [.ref t0, .int 0, .int 0, .int 0])), (s1, .inr (6, [.ref t1, .int 0, .int 0, .int 0])), (s2, .inr (6, [.ref t2, .int 0, .int 0, .int 0])), (s3, .inr (6, [.ref t3, .int 0, .int 0, .int 0])), (h0, .inr (11, [.ref a0, .ref a1, .ref a2, .ref a3, .ref a4, .ref a5, .ref a6, .ref a7, .ref a8, .ref a9, .ref a10, .int 0, .int 0, .int 0, .int 0])), (a9, .inl (g.2 4, 4, .inr (.inr (.inr (.inr (va_up (va_up (va_up (va_up (fun _ => none) 0 (some s0)) 1 (some s1)) 2 (some s2)) 3 (some s3)))))))] H := hP
    have hD : va_D A [(s0, .inr (6, [.ref t0, .int 0, .int 0, .int 0])), (s1, .inr (6, [.ref t1, .int 0, .int 0, .int 0])), (s2, .inr (6, [.ref t2, .int 0, .int 0, .int 0])), (s3, .inr (6, [.ref t3, .int 0, .int 0, .int 0])), (h0, .inr (11, [.ref a0, .ref a1, .ref a2, .ref a3, .ref a4, .ref a5, .ref a6, .ref a7, .ref a8, .ref a9, .ref a10, .int 0, .int 0, .int 0, .int 0])), (a9, .inl (g.2 4, 4, .inr (.inr (.inr (.inr (va_up (va_up (va_up (va_up (fun _ => none) 0 (some s0)) 1 (some s1)) 2 (some s2)) 3 (some s3)))))))] := hD
    subst hw
    by_cases b3 : oth < 0
    · refine nx_v (v := .null) (by unfold r_c_sheetAt; rw [if_pos b3]; rfl) ?_
      refine lv_astoreN (lv' := [(7, .null), (6, .null), (0, .ref h0), (1, .int k), (2, .int i), (3, .int oth), (4, .int j), (5, .int n)]) hx hb dX11_copy_17 hl (by decide) rfl (fun ls hl => ?_)
      refine lv_aloadN hx hb dX11_copy_19 (lv_at hl 1 rfl) ?_
      refine lv_ifnullN (tgt := 29) hx hb dX11_copy_21 (by decide) ?_
      refine lv_iconst (v := -1) hx hb dX11_copy_29 (by decide) ?_
      exact retI C hS () (by unfold r_x_copy; rw [if_pos b1, if_pos b3]) (hP.pick [] rfl) (hD.sub [] rfl rfl) (Nat.le_of_ble_eq_true rfl) (Nat.le_of_ble_eq_true rfl) dX11_copy_30
    by_cases b4 : 4 ≤ oth
    · refine nx_v (v := .null) (by unfold r_c_sheetAt; rw [if_neg b3, if_pos b4]; rfl) ?_
      refine lv_astoreN (lv' := [(7, .null), (6, .null), (0, .ref h0), (1, .int k), (2, .int i), (3, .int oth), (4, .int j), (5, .int n)]) hx hb dX11_copy_17 hl (by decide) rfl (fun ls hl => ?_)
      refine lv_aloadN hx hb dX11_copy_19 (lv_at hl 1 rfl) ?_
      refine lv_ifnullN (tgt := 29) hx hb dX11_copy_21 (by decide) ?_
      refine lv_iconst (v := -1) hx hb dX11_copy_29 (by decide) ?_
      exact retI C hS () (by unfold r_x_copy; rw [if_pos b1, if_neg b3, if_pos b4]) (hP.pick [] rfl) (hD.sub [] rfl rfl) (Nat.le_of_ble_eq_true rfl) (Nat.le_of_ble_eq_true rfl) dX11_copy_30
    rcases in4 b3 b4 with e5 | e5 | e5 | e5
    · refine nx_v (v := .ref s0) (by unfold r_c_sheetAt; rw [if_neg b3, if_neg b4, e5]; rfl) ?_
      refine lv_astore (lv' := [(7, .ref s0), (6, .null), (0, .ref h0), (1, .int k), (2, .int i), (3, .int oth), (4, .int j), (5, .int n)]) hx hb dX11_copy_17 hl (by decide) rfl (fun ls hl => ?_)
      refine lv_aloadN hx hb dX11_copy_19 (lv_at hl 1 rfl) ?_
      refine lv_ifnullN (tgt := 29) hx hb dX11_copy_21 (by decide) ?_
      refine lv_iconst (v := -1) hx hb dX11_copy_29 (by decide) ?_
      exact retI C hS () (by unfold r_x_copy; rw [if_pos b1, if_neg b3, if_neg b4]) (hP.pick [] rfl) (hD.sub [] rfl rfl) (Nat.le_of_ble_eq_true rfl) (Nat.le_of_ble_eq_true rfl) dX11_copy_30
    · refine nx_v (v := .ref s1) (by unfold r_c_sheetAt; rw [if_neg b3, if_neg b4, e5]; rfl) ?_
      refine lv_astore (lv' := [(7, .ref s1), (6, .null), (0, .ref h0), (1, .int k), (2, .int i), (3, .int oth), (4, .int j), (5, .int n)]) hx hb dX11_copy_17 hl (by decide) rfl (fun ls hl => ?_)
      refine lv_aloadN hx hb dX11_copy_19 (lv_at hl 1 rfl) ?_
      refine lv_ifnullN (tgt := 29) hx hb dX11_copy_21 (by decide) ?_
      refine lv_iconst (v := -1) hx hb dX11_copy_29 (by decide) ?_
      exact retI C hS () (by unfold r_x_copy; rw [if_pos b1, if_neg b3, if_neg b4]) (hP.pick [] rfl) (hD.sub [] rfl rfl) (Nat.le_of_ble_eq_true rfl) (Nat.le_of_ble_eq_true rfl) dX11_copy_30
    · refine nx_v (v := .ref s2) (by unfold r_c_sheetAt; rw [if_neg b3, if_neg b4, e5]; rfl) ?_
      refine lv_astore (lv' := [(7, .ref s2), (6, .null), (0, .ref h0), (1, .int k), (2, .int i), (3, .int oth), (4, .int j), (5, .int n)]) hx hb dX11_copy_17 hl (by decide) rfl (fun ls hl => ?_)
      refine lv_aloadN hx hb dX11_copy_19 (lv_at hl 1 rfl) ?_
      refine lv_ifnullN (tgt := 29) hx hb dX11_copy_21 (by decide) ?_
      refine lv_iconst (v := -1) hx hb dX11_copy_29 (by decide) ?_
      exact retI C hS () (by unfold r_x_copy; rw [if_pos b1, if_neg b3, if_neg b4]) (hP.pick [] rfl) (hD.sub [] rfl rfl) (Nat.le_of_ble_eq_true rfl) (Nat.le_of_ble_eq_true rfl) dX11_copy_30
    · refine nx_v (v := .ref s3) (by unfold r_c_sheetAt; rw [if_neg b3, if_neg b4, e5]; rfl) ?_
      refine lv_astore (lv' := [(7, .ref s3), (6, .null), (0, .ref h0), (1, .int k), (2, .int i), (3, .int oth), (4, .int j), (5, .int n)]) hx hb dX11_copy_17 hl (by decide) rfl (fun ls hl => ?_)
      refine lv_aloadN hx hb dX11_copy_19 (lv_at hl 1 rfl) ?_
      refine lv_ifnullN (tgt := 29) hx hb dX11_copy_21 (by decide) ?_
      refine lv_iconst (v := -1) hx hb dX11_copy_29 (by decide) ?_
      exact retI C hS () (by unfold r_x_copy; rw [if_pos b1, if_neg b3, if_neg b4]) (hP.pick [] rfl) (hD.sub [] rfl rfl) (Nat.le_of_ble_eq_true rfl) (Nat.le_of_ble_eq_true rfl) dX11_copy_30
  by_cases b2 : 4 ≤ k
  · refine nx_v (v := .null) (by unfold r_c_sheetAt; rw [if_neg b1, if_pos b2]; rfl) ?_
    refine lv_astoreN (lv' := [(6, .null), (0, .ref h0), (1, .int k), (2, .int i), (3, .int oth), (4, .int j), (5, .int n)]) hx hb dX11_copy_10 hl (by decide) rfl (fun ls hl => ?_)
    refine lv_aload_n hx hb dX11_copy_12 rfl (lv_at hl 1 rfl) ?_
    refine lv_iload_n hx hb dX11_copy_13 rfl (lv_at hl 4 rfl) ?_
    refine callQV (As := [.int oth]) (rest := []) (wr := [(s0, .inr (6, [.ref t0, .int 0, .int 0, .int 0])), (s1, .inr (6, [.ref t1, .int 0, .int 0, .int 0])), (s2, .inr (6, [.ref t2, .int 0, .int 0, .int 0])), (s3, .inr (6, [.ref t3, .int 0, .int 0, .int 0]))]) (Cn := RX11) C (c_sheetAt l g h0 a0 a1 a2 a3 a4 a5 a6 a7 a8 a9 a10 s0 s1 s2 s3 oth) 1 gX11_copy_X11_sheetAt rfl (by decide +kernel) ⟨(Nat.le_of_ble_eq_true rfl), (Nat.le_of_ble_eq_true rfl)⟩ [4, 5] [0, 1, 2, 3] hP hD hA hS rfl rfl rfl rfl (by decide) (k := 4) (ci := 11) rfl rfl rfl rfl hl.1 rfl (Nat.le_of_ble_eq_true rfl) dX11_copy_14 ⟨(Nat.le_of_ble_eq_true rfl), (Nat.le_of_ble_eq_true rfl)⟩ (fun r _u H locs hw hP hD hS => ?_)
    have hP : va_P g.1 vwCl [(s0, .inr (6, [.ref t0, .int 0, .int 0, .int 0])), (s1, .inr (6, [.ref t1, .int 0, .int 0, .int 0])), (s2, .inr (6, [.ref t2, .int 0, .int 0, .int 0])), (s3, .inr (6, [.ref t3, .int 0, .int 0, .int 0])), (h0, .inr (11, [.ref a0, .ref a1, .ref a2, .ref a3, .ref a4, .ref a5, .ref a6, .ref a7, .ref a8, .ref a9, .ref a10, .int 0, .int 0, .int 0, .int 0])), (a9, .inl (g.2 4, 4, .inr (.inr (.inr (.inr (va_up (va_up (va_up (va_up (fun _ => none) 0 (some s0)) 1 (some s1)) 2 (some s2)) 3 (some s3)))))))] H := hP
    have hD : va_D A [(s0, .inr (6, [.ref t0, .int 0, .int 0, .int 0])), (s1, .inr (6, [.ref t1, .int 0, .int 0, .int 0])), (s2, .inr (6, [.ref t2, .int 0, .int 0, .int 0])), (s3, .inr (6, [.ref t3, .int 0, .int 0, .int 0])), (h0, .inr (11, [.ref a0, .ref a1, .ref a2, .ref a3, .ref a4, .ref a5, .ref a6, .ref a7, .ref a8, .ref a9, .ref a10, .int 0, .int 0, .int 0, .int 0])), (a9, .inl (g.2 4, 4, .inr (.inr (.inr (.inr (va_up (va_up (va_up (va_up (fun _ => none) 0 (some s0)) 1 (some s1)) 2 (some s2)) 3 (some s3)))))))] := hD
    subst hw
    by_cases b6 : oth < 0
    · refine nx_v (v := .null) (by unfold r_c_sheetAt; rw [if_pos b6]; rfl) ?_
      refine lv_astoreN (lv' := [(7, .null), (6, .null), (0, .ref h0), (1, .int k), (2, .int i), (3, .int oth), (4, .int j), (5, .int n)]) hx hb dX11_copy_17 hl (by decide) rfl (fun ls hl => ?_)
      refine lv_aloadN hx hb dX11_copy_19 (lv_at hl 1 rfl) ?_
      refine lv_ifnullN (tgt := 29) hx hb dX11_copy_21 (by decide) ?_
      refine lv_iconst (v := -1) hx hb dX11_copy_29 (by decide) ?_
      exact retI C hS () (by unfold r_x_copy; rw [if_neg b1, if_pos b2, if_pos b6]) (hP.pick [] rfl) (hD.sub [] rfl rfl) (Nat.le_of_ble_eq_true rfl) (Nat.le_of_ble_eq_true rfl) dX11_copy_30
    by_cases b7 : 4 ≤ oth
    · refine nx_v (v := .null) (by unfold r_c_sheetAt; rw [if_neg b6, if_pos b7]; rfl) ?_
      refine lv_astoreN (lv' := [(7, .null), (6, .null), (0, .ref h0), (1, .int k), (2, .int i), (3, .int oth), (4, .int j), (5, .int n)]) hx hb dX11_copy_17 hl (by decide) rfl (fun ls hl => ?_)
      refine lv_aloadN hx hb dX11_copy_19 (lv_at hl 1 rfl) ?_
      refine lv_ifnullN (tgt := 29) hx hb dX11_copy_21 (by decide) ?_
      refine lv_iconst (v := -1) hx hb dX11_copy_29 (by decide) ?_
      exact retI C hS () (by unfold r_x_copy; rw [if_neg b1, if_pos b2, if_neg b6, if_pos b7]) (hP.pick [] rfl) (hD.sub [] rfl rfl) (Nat.le_of_ble_eq_true rfl) (Nat.le_of_ble_eq_true rfl) dX11_copy_30
    rcases in4 b6 b7 with e8 | e8 | e8 | e8
    · refine nx_v (v := .ref s0) (by unfold r_c_sheetAt; rw [if_neg b6, if_neg b7, e8]; rfl) ?_
      refine lv_astore (lv' := [(7, .ref s0), (6, .null), (0, .ref h0), (1, .int k), (2, .int i), (3, .int oth), (4, .int j), (5, .int n)]) hx hb dX11_copy_17 hl (by decide) rfl (fun ls hl => ?_)
      refine lv_aloadN hx hb dX11_copy_19 (lv_at hl 1 rfl) ?_
      refine lv_ifnullN (tgt := 29) hx hb dX11_copy_21 (by decide) ?_
      refine lv_iconst (v := -1) hx hb dX11_copy_29 (by decide) ?_
      exact retI C hS () (by unfold r_x_copy; rw [if_neg b1, if_pos b2, if_neg b6, if_neg b7]) (hP.pick [] rfl) (hD.sub [] rfl rfl) (Nat.le_of_ble_eq_true rfl) (Nat.le_of_ble_eq_true rfl) dX11_copy_30
    · refine nx_v (v := .ref s1) (by unfold r_c_sheetAt; rw [if_neg b6, if_neg b7, e8]; rfl) ?_
      refine lv_astore (lv' := [(7, .ref s1), (6, .null), (0, .ref h0), (1, .int k), (2, .int i), (3, .int oth), (4, .int j), (5, .int n)]) hx hb dX11_copy_17 hl (by decide) rfl (fun ls hl => ?_)
      refine lv_aloadN hx hb dX11_copy_19 (lv_at hl 1 rfl) ?_
      refine lv_ifnullN (tgt := 29) hx hb dX11_copy_21 (by decide) ?_
      refine lv_iconst (v := -1) hx hb dX11_copy_29 (by decide) ?_
      exact retI C hS () (by unfold r_x_copy; rw [if_neg b1, if_pos b2, if_neg b6, if_neg b7]) (hP.pick [] rfl) (hD.sub [] rfl rfl) (Nat.le_of_ble_eq_true rfl) (Nat.le_of_ble_eq_true rfl) dX11_copy_30
    · refine nx_v (v := .ref s2) (by unfold r_c_sheetAt; rw [if_neg b6, if_neg b7, e8]; rfl) ?_
      refine lv_astore (lv' := [(7, .ref s2), (6, .null), (0, .ref h0), (1, .int k), (2, .int i), (3, .int oth), (4, .int j), (5, .int n)]) hx hb dX11_copy_17 hl (by decide) rfl (fun ls hl => ?_)
      refine lv_aloadN hx hb dX11_copy_19 (lv_at hl 1 rfl) ?_
      refine lv_ifnullN (tgt := 29) hx hb dX11_copy_21 (by decide) ?_
      refine lv_iconst (v := -1) hx hb dX11_copy_29 (by decide) ?_
      exact retI C hS () (by unfold r_x_copy; rw [if_neg b1, if_pos b2, if_neg b6, if_neg b7]) (hP.pick [] rfl) (hD.sub [] rfl rfl) (Nat.le_of_ble_eq_true rfl) (Nat.le_of_ble_eq_true rfl) dX11_copy_30
    · refine nx_v (v := .ref s3) (by unfold r_c_sheetAt; rw [if_neg b6, if_neg b7, e8]; rfl) ?_
      refine lv_astore (lv' := [(7, .ref s3), (6, .null), (0, .ref h0), (1, .int k), (2, .int i), (3, .int oth), (4, .int j), (5, .int n)]) hx hb dX11_copy_17 hl (by decide) rfl (fun ls hl => ?_)
      refine lv_aloadN hx hb dX11_copy_19 (lv_at hl 1 rfl) ?_
      refine lv_ifnullN (tgt := 29) hx hb dX11_copy_21 (by decide) ?_
      refine lv_iconst (v := -1) hx hb dX11_copy_29 (by decide) ?_
      exact retI C hS () (by unfold r_x_copy; rw [if_neg b1, if_pos b2, if_neg b6, if_neg b7]) (hP.pick [] rfl) (hD.sub [] rfl rfl) (Nat.le_of_ble_eq_true rfl) (Nat.le_of_ble_eq_true rfl) dX11_copy_30
  rcases in4 b1 b2 with e9 | e9 | e9 | e9
  · refine nx_v (v := .ref s0) (by unfold r_c_sheetAt; rw [if_neg b1, if_neg b2, e9]; rfl) ?_
    refine lv_astore (lv' := [(6, .ref s0), (0, .ref h0), (1, .int k), (2, .int i), (3, .int oth), (4, .int j), (5, .int n)]) hx hb dX11_copy_10 hl (by decide) rfl (fun ls hl => ?_)
    refine lv_aload_n hx hb dX11_copy_12 rfl (lv_at hl 1 rfl) ?_
    refine lv_iload_n hx hb dX11_copy_13 rfl (lv_at hl 4 rfl) ?_
    refine callQV (As := [.int oth]) (rest := []) (wr := [(s0, .inr (6, [.ref t0, .int 0, .int 0, .int 0])), (s1, .inr (6, [.ref t1, .int 0, .int 0, .int 0])), (s2, .inr (6, [.ref t2, .int 0, .int 0, .int 0])), (s3, .inr (6, [.ref t3, .int 0, .int 0, .int 0]))]) (Cn := RX11) C (c_sheetAt l g h0 a0 a1 a2 a3 a4 a5 a6 a7 a8 a9 a10 s0 s1 s2 s3 oth) 1 gX11_copy_X11_sheetAt rfl (by decide +kernel) ⟨(Nat.le_of_ble_eq_true rfl), (Nat.le_of_ble_eq_true rfl)⟩ [4, 5] [0, 1, 2, 3] hP hD hA hS rfl rfl rfl rfl (by decide) (k := 4) (ci := 11) rfl rfl rfl rfl hl.1 rfl (Nat.le_of_ble_eq_true rfl) dX11_copy_14 ⟨(Nat.le_of_ble_eq_true rfl), (Nat.le_of_ble_eq_true rfl)⟩ (fun r _u H locs hw hP hD hS => ?_)
    have hP : va_P g.1 vwCl [(s0, .inr (6, [.ref t0, .int 0, .int 0, .int 0])), (s1, .inr (6, [.ref t1, .int 0, .int 0, .int 0])), (s2, .inr (6, [.ref t2, .int 0, .int 0, .int 0])), (s3, .inr (6, [.ref t3, .int 0, .int 0, .int 0])), (h0, .inr (11, [.ref a0, .ref a1, .ref a2, .ref a3, .ref a4, .ref a5, .ref a6, .ref a7, .ref a8, .ref a9, .ref a10, .int 0, .int 0, .int 0, .int 0])), (a9, .inl (g.2 4, 4, .inr (.inr (.inr (.inr (va_up (va_up (va_up (va_up (fun _ => none) 0 (some s0)) 1 (some s1)) 2 (some s2)) 3 (some s3)))))))] H := hP
    have hD : va_D A [(s0, .inr (6, [.ref t0, .int 0, .int 0, .int 0])), (s1, .inr (6, [.ref t1, .int 0, .int 0, .int 0])), (s2, .inr (6, [.ref t2, .int 0, .int 0, .int 0])), (s3, .inr (6, [.ref t3, .int 0, .int 0, .int 0])), (h0, .inr (11, [.ref a0, .ref a1, .ref a2, .ref a3, .ref a4, .ref a5, .ref a6, .ref a7, .ref a8, .ref a9, .ref a10, .int 0, .int 0, .int 0, .int 0])), (a9, .inl (g.2 4, 4, .inr (.inr (.inr (.inr (va_up (va_up (va_up (va_up (fun _ => none) 0 (some s0)) 1 (some s1)) 2 (some s2)) 3 (some s3)))))))] := hD
    subst hw
    by_cases b10 : oth < 0
    · refine nx_v (v := .null) (by unfold r_c_sheetAt; rw [if_pos b10]; rfl) ?_
      refine lv_astoreN (lv' := [(7, .null), (6, .ref s0), (0, .ref h0), (1, .int k), (2, .int i), (3, .int oth), (4, .int j), (5, .int n)]) hx hb dX11_copy_17 hl (by decide) rfl (fun ls hl => ?_)
      refine lv_aload hx hb dX11_copy_19 (lv_at hl 1 rfl) ?_
      refine lv_ifnull hx hb dX11_copy_21 ?_
      refine lv_aloadN hx hb dX11_copy_24 (lv_at hl 0 rfl) ?_
      refine lv_ifnonnullN hx hb dX11_copy_26 ?_
      refine lv_iconst (v := -1) hx hb dX11_copy_29 (by decide) ?_
      exact retI C hS () (by unfold r_x_copy; rw [if_neg b1, if_neg b2, if_pos b10]) (hP.pick [] rfl) (hD.sub [] rfl rfl) (Nat.le_of_ble_eq_true rfl) (Nat.le_of_ble_eq_true rfl) dX11_copy_30
    by_cases b11 : 4 ≤ oth
    · refine nx_v (v := .null) (by unfold r_c_sheetAt; rw [if_neg b10, if_pos b11]; rfl) ?_
      refine lv_astoreN (lv' := [(7, .null), (6, .ref s0), (0, .ref h0), (1, .int k), (2, .int i), (3, .int oth), (4, .int j), (5, .int n)]) hx hb dX11_copy_17 hl (by decide) rfl (fun ls hl => ?_)
      refine lv_aload hx hb dX11_copy_19 (lv_at hl 1 rfl) ?_
      refine lv_ifnull hx hb dX11_copy_21 ?_
      refine lv_aloadN hx hb dX11_copy_24 (lv_at hl 0 rfl) ?_
      refine lv_ifnonnullN hx hb dX11_copy_26 ?_
      refine lv_iconst (v := -1) hx hb dX11_copy_29 (by decide) ?_
      exact retI C hS () (by unfold r_x_copy; rw [if_neg b1, if_neg b2, if_neg b10, if_pos b11]) (hP.pick [] rfl) (hD.sub [] rfl rfl) (Nat.le_of_ble_eq_true rfl) (Nat.le_of_ble_eq_true rfl) dX11_copy_30
    rcases in4 b10 b11 with e12 | e12 | e12 | e12
    · refine nx_v (v := .ref s0) (by unfold r_c_sheetAt; rw [if_neg b10, if_neg b11, e12]; rfl) ?_
      refine lv_astore (lv' := [(7, .ref s0), (6, .ref s0), (0, .ref h0), (1, .int k), (2, .int i), (3, .int oth), (4, .int j), (5, .int n)]) hx hb dX11_copy_17 hl (by decide) rfl (fun ls hl => ?_)
      refine lv_aload hx hb dX11_copy_19 (lv_at hl 1 rfl) ?_
      refine lv_ifnull hx hb dX11_copy_21 ?_
      refine lv_aload hx hb dX11_copy_24 (lv_at hl 0 rfl) ?_
      refine lv_ifnonnull (tgt := 31) hx hb dX11_copy_26 (by decide) ?_
      refine lv_aload hx hb dX11_copy_31 (lv_at hl 1 rfl) ?_
      refine va_get (D := g.1) (ci := 6) (v := .int 0) (C := RX6) (T := TX6) (N := 4) hx hb hts hi_X11_copy_X6 hown hK hP 0 rfl rfl 1 (by decide) (hts (.fieldLink RX11 277 "OilPush$Sheet" "has" "Z") (by decide +kernel)) (fun _ h => h) rfl dX11_copy_33 ?_
      refine lv_if_eq (tgt := 47) hx hb dX11_copy_36 (by decide) (fun _ => ?_) (fun cc0 => absurd cc0 (by decide))
      refine lv_aload_n hx hb dX11_copy_47 rfl (lv_at hl 2 rfl) ?_
      refine lv_iconst (v := 1) hx hb dX11_copy_48 (by decide) ?_
      refine callIV (As := [.int 1]) (rest := []) (wr := [(s0, .inr (6, [.ref t0, .int 0, .int 0, .int 0])), (s1, .inr (6, [.ref t1, .int 0, .int 0, .int 0])), (s2, .inr (6, [.ref t2, .int 0, .int 0, .int 0])), (s3, .inr (6, [.ref t3, .int 0, .int 0, .int 0])), (a9, .inl (g.2 4, 4, .inr (.inr (.inr (.inr (va_up (va_up (va_up (va_up (fun _ => none) 0 (some s0)) 1 (some s1)) 2 (some s2)) 3 (some s3)))))))]) (Cn := RX11) C (c_faulted l g h0 a0 a1 a2 a3 a4 a5 a6 a7 a8 a9 a10 0 1) 1 gX11_copy_X11_faulted rfl (by decide +kernel) ⟨(Nat.le_of_ble_eq_true rfl), (Nat.le_of_ble_eq_true rfl)⟩ [4] [0, 1, 2, 3, 5] hP hD hA hS rfl rfl rfl rfl (by decide) (k := 4) (ci := 11) rfl rfl rfl rfl hl.1 rfl (Nat.le_of_ble_eq_true rfl) dX11_copy_49 ⟨(Nat.le_of_ble_eq_true rfl), (Nat.le_of_ble_eq_true rfl)⟩ (fun r _u H locs hw hP hD hS => ?_)
      have hP : va_P g.1 vwCl [(s0, .inr (6, [.ref t0, .int 0, .int 0, .int 0])), (s1, .inr (6, [.ref t1, .int 0, .int 0, .int 0])), (s2, .inr (6, [.ref t2, .int 0, .int 0, .int 0])), (s3, .inr (6, [.ref t3, .int 0, .int 0, .int 0])), (a9, .inl (g.2 4, 4, .inr (.inr (.inr (.inr (va_up (va_up (va_up (va_up (fun _ => none) 0 (some s0)) 1 (some s1)) 2 (some s2)) 3 (some s3)))))))] H := hP
      have hD : va_D A [(s0, .inr (6, [.ref t0, .int 0, .int 0, .int 0])), (s1, .inr (6, [.ref t1, .int 0, .int 0, .int 0])), (s2, .inr (6, [.ref t2, .int 0, .int 0, .int 0])), (s3, .inr (6, [.ref t3, .int 0, .int 0, .int 0])), (a9, .inl (g.2 4, 4, .inr (.inr (.inr (.inr (va_up (va_up (va_up (va_up (fun _ => none) 0 (some s0)) 1 (some s1)) 2 (some s2)) 3 (some s3)))))))] := hD
      subst hw
      exact retI C hS () (by unfold r_x_copy; rw [if_neg b1, if_neg b2, if_neg b10, if_neg b11]) (hP.pick [] rfl) (hD.sub [] rfl rfl) (Nat.le_of_ble_eq_true rfl) (Nat.le_of_ble_eq_true rfl) dX11_copy_52
    · refine nx_v (v := .ref s1) (by unfold r_c_sheetAt; rw [if_neg b10, if_neg b11, e12]; rfl) ?_
      refine lv_astore (lv' := [(7, .ref s1), (6, .ref s0), (0, .ref h0), (1, .int k), (2, .int i), (3, .int oth), (4, .int j), (5, .int n)]) hx hb dX11_copy_17 hl (by decide) rfl (fun ls hl => ?_)
      refine lv_aload hx hb dX11_copy_19 (lv_at hl 1 rfl) ?_
      refine lv_ifnull hx hb dX11_copy_21 ?_
      refine lv_aload hx hb dX11_copy_24 (lv_at hl 0 rfl) ?_
      refine lv_ifnonnull (tgt := 31) hx hb dX11_copy_26 (by decide) ?_
      refine lv_aload hx hb dX11_copy_31 (lv_at hl 1 rfl) ?_
      refine va_get (D := g.1) (ci := 6) (v := .int 0) (C := RX6) (T := TX6) (N := 4) hx hb hts hi_X11_copy_X6 hown hK hP 0 rfl rfl 1 (by decide) (hts (.fieldLink RX11 277 "OilPush$Sheet" "has" "Z") (by decide +kernel)) (fun _ h => h) rfl dX11_copy_33 ?_
      refine lv_if_eq (tgt := 47) hx hb dX11_copy_36 (by decide) (fun _ => ?_) (fun cc0 => absurd cc0 (by decide))
      refine lv_aload_n hx hb dX11_copy_47 rfl (lv_at hl 2 rfl) ?_
      refine lv_iconst (v := 1) hx hb dX11_copy_48 (by decide) ?_
      refine callIV (As := [.int 1]) (rest := []) (wr := [(s0, .inr (6, [.ref t0, .int 0, .int 0, .int 0])), (s1, .inr (6, [.ref t1, .int 0, .int 0, .int 0])), (s2, .inr (6, [.ref t2, .int 0, .int 0, .int 0])), (s3, .inr (6, [.ref t3, .int 0, .int 0, .int 0])), (a9, .inl (g.2 4, 4, .inr (.inr (.inr (.inr (va_up (va_up (va_up (va_up (fun _ => none) 0 (some s0)) 1 (some s1)) 2 (some s2)) 3 (some s3)))))))]) (Cn := RX11) C (c_faulted l g h0 a0 a1 a2 a3 a4 a5 a6 a7 a8 a9 a10 0 1) 1 gX11_copy_X11_faulted rfl (by decide +kernel) ⟨(Nat.le_of_ble_eq_true rfl), (Nat.le_of_ble_eq_true rfl)⟩ [4] [0, 1, 2, 3, 5] hP hD hA hS rfl rfl rfl rfl (by decide) (k := 4) (ci := 11) rfl rfl rfl rfl hl.1 rfl (Nat.le_of_ble_eq_true rfl) dX11_copy_49 ⟨(Nat.le_of_ble_eq_true rfl), (Nat.le_of_ble_eq_true rfl)⟩ (fun r _u H locs hw hP hD hS => ?_)
      have hP : va_P g.1 vwCl [(s0, .inr (6, [.ref t0, .int 0, .int 0, .int 0])), (s1, .inr (6, [.ref t1, .int 0, .int 0, .int 0])), (s2, .inr (6, [.ref t2, .int 0, .int 0, .int 0])), (s3, .inr (6, [.ref t3, .int 0, .int 0, .int 0])), (a9, .inl (g.2 4, 4, .inr (.inr (.inr (.inr (va_up (va_up (va_up (va_up (fun _ => none) 0 (some s0)) 1 (some s1)) 2 (some s2)) 3 (some s3)))))))] H := hP
      have hD : va_D A [(s0, .inr (6, [.ref t0, .int 0, .int 0, .int 0])), (s1, .inr (6, [.ref t1, .int 0, .int 0, .int 0])), (s2, .inr (6, [.ref t2, .int 0, .int 0, .int 0])), (s3, .inr (6, [.ref t3, .int 0, .int 0, .int 0])), (a9, .inl (g.2 4, 4, .inr (.inr (.inr (.inr (va_up (va_up (va_up (va_up (fun _ => none) 0 (some s0)) 1 (some s1)) 2 (some s2)) 3 (some s3)))))))] := hD
      subst hw
      exact retI C hS () (by unfold r_x_copy; rw [if_neg b1, if_neg b2, if_neg b10, if_neg b11]) (hP.pick [] rfl) (hD.sub [] rfl rfl) (Nat.le_of_ble_eq_true rfl) (Nat.le_of_ble_eq_true rfl) dX11_copy_52
    · refine nx_v (v := .ref s2) (by unfold r_c_sheetAt; rw [if_neg b10, if_neg b11, e12]; rfl) ?_
      refine lv_astore (lv' := [(7, .ref s2), (6, .ref s0), (0, .ref h0), (1, .int k), (2, .int i), (3, .int oth), (4, .int j), (5, .int n)]) hx hb dX11_copy_17 hl (by decide) rfl (fun ls hl => ?_)
      refine lv_aload hx hb dX11_copy_19 (lv_at hl 1 rfl) ?_
      refine lv_ifnull hx hb dX11_copy_21 ?_
      refine lv_aload hx hb dX11_copy_24 (lv_at hl 0 rfl) ?_
      refine lv_ifnonnull (tgt := 31) hx hb dX11_copy_26 (by decide) ?_
      refine lv_aload hx hb dX11_copy_31 (lv_at hl 1 rfl) ?_
      refine va_get (D := g.1) (ci := 6) (v := .int 0) (C := RX6) (T := TX6) (N := 4) hx hb hts hi_X11_copy_X6 hown hK hP 0 rfl rfl 1 (by decide) (hts (.fieldLink RX11 277 "OilPush$Sheet" "has" "Z") (by decide +kernel)) (fun _ h => h) rfl dX11_copy_33 ?_
      refine lv_if_eq (tgt := 47) hx hb dX11_copy_36 (by decide) (fun _ => ?_) (fun cc0 => absurd cc0 (by decide))
      refine lv_aload_n hx hb dX11_copy_47 rfl (lv_at hl 2 rfl) ?_
      refine lv_iconst (v := 1) hx hb dX11_copy_48 (by decide) ?_
      refine callIV (As := [.int 1]) (rest := []) (wr := [(s0, .inr (6, [.ref t0, .int 0, .int 0, .int 0])), (s1, .inr (6, [.ref t1, .int 0, .int 0, .int 0])), (s2, .inr (6, [.ref t2, .int 0, .int 0, .int 0])), (s3, .inr (6, [.ref t3, .int 0, .int 0, .int 0])), (a9, .inl (g.2 4, 4, .inr (.inr (.inr (.inr (va_up (va_up (va_up (va_up (fun _ => none) 0 (some s0)) 1 (some s1)) 2 (some s2)) 3 (some s3)))))))]) (Cn := RX11) C (c_faulted l g h0 a0 a1 a2 a3 a4 a5 a6 a7 a8 a9 a10 0 1) 1 gX11_copy_X11_faulted rfl (by decide +kernel) ⟨(Nat.le_of_ble_eq_true rfl), (Nat.le_of_ble_eq_true rfl)⟩ [4] [0, 1, 2, 3, 5] hP hD hA hS rfl rfl rfl rfl (by decide) (k := 4) (ci := 11) rfl rfl rfl rfl hl.1 rfl (Nat.le_of_ble_eq_true rfl) dX11_copy_49 ⟨(Nat.le_of_ble_eq_true rfl), (Nat.le_of_ble_eq_true rfl)⟩ (fun r _u H locs hw hP hD hS => ?_)
      have hP : va_P g.1 vwCl [(s0, .inr (6, [.ref t0, .int 0, .int 0, .int 0])), (s1, .inr (6, [.ref t1, .int 0, .int 0, .int 0])), (s2, .inr (6, [.ref t2, .int 0, .int 0, .int 0])), (s3, .inr (6, [.ref t3, .int 0, .int 0, .int 0])), (a9, .inl (g.2 4, 4, .inr (.inr (.inr (.inr (va_up (va_up (va_up (va_up (fun _ => none) 0 (some s0)) 1 (some s1)) 2 (some s2)) 3 (some s3)))))))] H := hP
      have hD : va_D A [(s0, .inr (6, [.ref t0, .int 0, .int 0, .int 0])), (s1, .inr (6, [.ref t1, .int 0, .int 0, .int 0])), (s2, .inr (6, [.ref t2, .int 0, .int 0, .int 0])), (s3, .inr (6, [.ref t3, .int 0, .int 0, .int 0])), (a9, .inl (g.2 4, 4, .inr (.inr (.inr (.inr (va_up (va_up (va_up (va_up (fun _ => none) 0 (some s0)) 1 (some s1)) 2 (some s2)) 3 (some s3)))))))] := hD
      subst hw
      exact retI C hS () (by unfold r_x_copy; rw [if_neg b1, if_neg b2, if_neg b10, if_neg b11]) (hP.pick [] rfl) (hD.sub [] rfl rfl) (Nat.le_of_ble_eq_true rfl) (Nat.le_of_ble_eq_true rfl) dX11_copy_52
    · refine nx_v (v := .ref s3) (by unfold r_c_sheetAt; rw [if_neg b10, if_neg b11, e12]; rfl) ?_
      refine lv_astore (lv' := [(7, .ref s3), (6, .ref s0), (0, .ref h0), (1, .int k), (2, .int i), (3, .int oth), (4, .int j), (5, .int n)]) hx hb dX11_copy_17 hl (by decide) rfl (fun ls hl => ?_)
      refine lv_aload hx hb dX11_copy_19 (lv_at hl 1 rfl) ?_
      refine lv_ifnull hx hb dX11_copy_21 ?_
      refine lv_aload hx hb dX11_copy_24 (lv_at hl 0 rfl) ?_
      refine lv_ifnonnull (tgt := 31) hx hb dX11_copy_26 (by decide) ?_
      refine lv_aload hx hb dX11_copy_31 (lv_at hl 1 rfl) ?_
      refine va_get (D := g.1) (ci := 6) (v := .int 0) (C := RX6) (T := TX6) (N := 4) hx hb hts hi_X11_copy_X6 hown hK hP 0 rfl rfl 1 (by decide) (hts (.fieldLink RX11 277 "OilPush$Sheet" "has" "Z") (by decide +kernel)) (fun _ h => h) rfl dX11_copy_33 ?_
      refine lv_if_eq (tgt := 47) hx hb dX11_copy_36 (by decide) (fun _ => ?_) (fun cc0 => absurd cc0 (by decide))
      refine lv_aload_n hx hb dX11_copy_47 rfl (lv_at hl 2 rfl) ?_
      refine lv_iconst (v := 1) hx hb dX11_copy_48 (by decide) ?_
      refine callIV (As := [.int 1]) (rest := []) (wr := [(s0, .inr (6, [.ref t0, .int 0, .int 0, .int 0])), (s1, .inr (6, [.ref t1, .int 0, .int 0, .int 0])), (s2, .inr (6, [.ref t2, .int 0, .int 0, .int 0])), (s3, .inr (6, [.ref t3, .int 0, .int 0, .int 0])), (a9, .inl (g.2 4, 4, .inr (.inr (.inr (.inr (va_up (va_up (va_up (va_up (fun _ => none) 0 (some s0)) 1 (some s1)) 2 (some s2)) 3 (some s3)))))))]) (Cn := RX11) C (c_faulted l g h0 a0 a1 a2 a3 a4 a5 a6 a7 a8 a9 a10 0 1) 1 gX11_copy_X11_faulted rfl (by decide +kernel) ⟨(Nat.le_of_ble_eq_true rfl), (Nat.le_of_ble_eq_true rfl)⟩ [4] [0, 1, 2, 3, 5] hP hD hA hS rfl rfl rfl rfl (by decide) (k := 4) (ci := 11) rfl rfl rfl rfl hl.1 rfl (Nat.le_of_ble_eq_true rfl) dX11_copy_49 ⟨(Nat.le_of_ble_eq_true rfl), (Nat.le_of_ble_eq_true rfl)⟩ (fun r _u H locs hw hP hD hS => ?_)
      have hP : va_P g.1 vwCl [(s0, .inr (6, [.ref t0, .int 0, .int 0, .int 0])), (s1, .inr (6, [.ref t1, .int 0, .int 0, .int 0])), (s2, .inr (6, [.ref t2, .int 0, .int 0, .int 0])), (s3, .inr (6, [.ref t3, .int 0, .int 0, .int 0])), (a9, .inl (g.2 4, 4, .inr (.inr (.inr (.inr (va_up (va_up (va_up (va_up (fun _ => none) 0 (some s0)) 1 (some s1)) 2 (some s2)) 3 (some s3)))))))] H := hP
      have hD : va_D A [(s0, .inr (6, [.ref t0, .int 0, .int 0, .int 0])), (s1, .inr (6, [.ref t1, .int 0, .int 0, .int 0])), (s2, .inr (6, [.ref t2, .int 0, .int 0, .int 0])), (s3, .inr (6, [.ref t3, .int 0, .int 0, .int 0])), (a9, .inl (g.2 4, 4, .inr (.inr (.inr (.inr (va_up (va_up (va_up (va_up (fun _ => none) 0 (some s0)) 1 (some s1)) 2 (some s2)) 3 (some s3)))))))] := hD
      subst hw
      exact retI C hS () (by unfold r_x_copy; rw [if_neg b1, if_neg b2, if_neg b10, if_neg b11]) (hP.pick [] rfl) (hD.sub [] rfl rfl) (Nat.le_of_ble_eq_true rfl) (Nat.le_of_ble_eq_true rfl) dX11_copy_52
  · refine nx_v (v := .ref s1) (by unfold r_c_sheetAt; rw [if_neg b1, if_neg b2, e9]; rfl) ?_
    refine lv_astore (lv' := [(6, .ref s1), (0, .ref h0), (1, .int k), (2, .int i), (3, .int oth), (4, .int j), (5, .int n)]) hx hb dX11_copy_10 hl (by decide) rfl (fun ls hl => ?_)
    refine lv_aload_n hx hb dX11_copy_12 rfl (lv_at hl 1 rfl) ?_
    refine lv_iload_n hx hb dX11_copy_13 rfl (lv_at hl 4 rfl) ?_
    refine callQV (As := [.int oth]) (rest := []) (wr := [(s0, .inr (6, [.ref t0, .int 0, .int 0, .int 0])), (s1, .inr (6, [.ref t1, .int 0, .int 0, .int 0])), (s2, .inr (6, [.ref t2, .int 0, .int 0, .int 0])), (s3, .inr (6, [.ref t3, .int 0, .int 0, .int 0]))]) (Cn := RX11) C (c_sheetAt l g h0 a0 a1 a2 a3 a4 a5 a6 a7 a8 a9 a10 s0 s1 s2 s3 oth) 1 gX11_copy_X11_sheetAt rfl (by decide +kernel) ⟨(Nat.le_of_ble_eq_true rfl), (Nat.le_of_ble_eq_true rfl)⟩ [4, 5] [0, 1, 2, 3] hP hD hA hS rfl rfl rfl rfl (by decide) (k := 4) (ci := 11) rfl rfl rfl rfl hl.1 rfl (Nat.le_of_ble_eq_true rfl) dX11_copy_14 ⟨(Nat.le_of_ble_eq_true rfl), (Nat.le_of_ble_eq_true rfl)⟩ (fun r _u H locs hw hP hD hS => ?_)
    have hP : va_P g.1 vwCl [(s0, .inr (6, [.ref t0, .int 0, .int 0, .int 0])), (s1, .inr (6, [.ref t1, .int 0, .int 0, .int 0])), (s2, .inr (6, [.ref t2, .int 0, .int 0, .int 0])), (s3, .inr (6, [.ref t3, .int 0, .int 0, .int 0])), (h0, .inr (11, [.ref a0, .ref a1, .ref a2, .ref a3, .ref a4, .ref a5, .ref a6, .ref a7, .ref a8, .ref a9, .ref a10, .int 0, .int 0, .int 0, .int 0])), (a9, .inl (g.2 4, 4, .inr (.inr (.inr (.inr (va_up (va_up (va_up (va_up (fun _ => none) 0 (some s0)) 1 (some s1)) 2 (some s2)) 3 (some s3)))))))] H := hP
    have hD : va_D A [(s0, .inr (6, [.ref t0, .int 0, .int 0, .int 0])), (s1, .inr (6, [.ref t1, .int 0, .int 0, .int 0])), (s2, .inr (6, [.ref t2, .int 0, .int 0, .int 0])), (s3, .inr (6, [.ref t3, .int 0, .int 0, .int 0])), (h0, .inr (11, [.ref a0, .ref a1, .ref a2, .ref a3, .ref a4, .ref a5, .ref a6, .ref a7, .ref a8, .ref a9, .ref a10, .int 0, .int 0, .int 0, .int 0])), (a9, .inl (g.2 4, 4, .inr (.inr (.inr (.inr (va_up (va_up (va_up (va_up (fun _ => none) 0 (some s0)) 1 (some s1)) 2 (some s2)) 3 (some s3)))))))] := hD
    subst hw
    by_cases b13 : oth < 0
    · refine nx_v (v := .null) (by unfold r_c_sheetAt; rw [if_pos b13]; rfl) ?_
      refine lv_astoreN (lv' := [(7, .null), (6, .ref s1), (0, .ref h0), (1, .int k), (2, .int i), (3, .int oth), (4, .int j), (5, .int n)]) hx hb dX11_copy_17 hl (by decide) rfl (fun ls hl => ?_)
      refine lv_aload hx hb dX11_copy_19 (lv_at hl 1 rfl) ?_
      refine lv_ifnull hx hb dX11_copy_21 ?_
      refine lv_aloadN hx hb dX11_copy_24 (lv_at hl 0 rfl) ?_
      refine lv_ifnonnullN hx hb dX11_copy_26 ?_
      refine lv_iconst (v := -1) hx hb dX11_copy_29 (by decide) ?_
      exact retI C hS () (by unfold r_x_copy; rw [if_neg b1, if_neg b2, if_pos b13]) (hP.pick [] rfl) (hD.sub [] rfl rfl) (Nat.le_of_ble_eq_true rfl) (Nat.le_of_ble_eq_true rfl) dX11_copy_30
    by_cases b14 : 4 ≤ oth
    · refine nx_v (v := .null) (by unfold r_c_sheetAt; rw [if_neg b13, if_pos b14]; rfl) ?_
      refine lv_astoreN (lv' := [(7, .null), (6, .ref s1), (0, .ref h0), (1, .int k), (2, .int i), (3, .int oth), (4, .int j), (5, .int n)]) hx hb dX11_copy_17 hl (by decide) rfl (fun ls hl => ?_)
      refine lv_aload hx hb dX11_copy_19 (lv_at hl 1 rfl) ?_
      refine lv_ifnull hx hb dX11_copy_21 ?_
      refine lv_aloadN hx hb dX11_copy_24 (lv_at hl 0 rfl) ?_
      refine lv_ifnonnullN hx hb dX11_copy_26 ?_
      refine lv_iconst (v := -1) hx hb dX11_copy_29 (by decide) ?_
      exact retI C hS () (by unfold r_x_copy; rw [if_neg b1, if_neg b2, if_neg b13, if_pos b14]) (hP.pick [] rfl) (hD.sub [] rfl rfl) (Nat.le_of_ble_eq_true rfl) (Nat.le_of_ble_eq_true rfl) dX11_copy_30
    rcases in4 b13 b14 with e15 | e15 | e15 | e15
    · refine nx_v (v := .ref s0) (by unfold r_c_sheetAt; rw [if_neg b13, if_neg b14, e15]; rfl) ?_
      refine lv_astore (lv' := [(7, .ref s0), (6, .ref s1), (0, .ref h0), (1, .int k), (2, .int i), (3, .int oth), (4, .int j), (5, .int n)]) hx hb dX11_copy_17 hl (by decide) rfl (fun ls hl => ?_)
      refine lv_aload hx hb dX11_copy_19 (lv_at hl 1 rfl) ?_
      refine lv_ifnull hx hb dX11_copy_21 ?_
      refine lv_aload hx hb dX11_copy_24 (lv_at hl 0 rfl) ?_
      refine lv_ifnonnull (tgt := 31) hx hb dX11_copy_26 (by decide) ?_
      refine lv_aload hx hb dX11_copy_31 (lv_at hl 1 rfl) ?_
      refine va_get (D := g.1) (ci := 6) (v := .int 0) (C := RX6) (T := TX6) (N := 4) hx hb hts hi_X11_copy_X6 hown hK hP 1 rfl rfl 1 (by decide) (hts (.fieldLink RX11 277 "OilPush$Sheet" "has" "Z") (by decide +kernel)) (fun _ h => h) rfl dX11_copy_33 ?_
      refine lv_if_eq (tgt := 47) hx hb dX11_copy_36 (by decide) (fun _ => ?_) (fun cc0 => absurd cc0 (by decide))
      refine lv_aload_n hx hb dX11_copy_47 rfl (lv_at hl 2 rfl) ?_
      refine lv_iconst (v := 1) hx hb dX11_copy_48 (by decide) ?_
      refine callIV (As := [.int 1]) (rest := []) (wr := [(s0, .inr (6, [.ref t0, .int 0, .int 0, .int 0])), (s1, .inr (6, [.ref t1, .int 0, .int 0, .int 0])), (s2, .inr (6, [.ref t2, .int 0, .int 0, .int 0])), (s3, .inr (6, [.ref t3, .int 0, .int 0, .int 0])), (a9, .inl (g.2 4, 4, .inr (.inr (.inr (.inr (va_up (va_up (va_up (va_up (fun _ => none) 0 (some s0)) 1 (some s1)) 2 (some s2)) 3 (some s3)))))))]) (Cn := RX11) C (c_faulted l g h0 a0 a1 a2 a3 a4 a5 a6 a7 a8 a9 a10 0 1) 1 gX11_copy_X11_faulted rfl (by decide +kernel) ⟨(Nat.le_of_ble_eq_true rfl), (Nat.le_of_ble_eq_true rfl)⟩ [4] [0, 1, 2, 3, 5] hP hD hA hS rfl rfl rfl rfl (by decide) (k := 4) (ci := 11) rfl rfl rfl rfl hl.1 rfl (Nat.le_of_ble_eq_true rfl) dX11_copy_49 ⟨(Nat.le_of_ble_eq_true rfl), (Nat.le_of_ble_eq_true rfl)⟩ (fun r _u H locs hw hP hD hS => ?_)
      have hP : va_P g.1 vwCl [(s0, .inr (6, [.ref t0, .int 0, .int 0, .int 0])), (s1, .inr (6, [.ref t1, .int 0, .int 0, .int 0])), (s2, .inr (6, [.ref t2, .int 0, .int 0, .int 0])), (s3, .inr (6, [.ref t3, .int 0, .int 0, .int 0])), (a9, .inl (g.2 4, 4, .inr (.inr (.inr (.inr (va_up (va_up (va_up (va_up (fun _ => none) 0 (some s0)) 1 (some s1)) 2 (some s2)) 3 (some s3)))))))] H := hP
      have hD : va_D A [(s0, .inr (6, [.ref t0, .int 0, .int 0, .int 0])), (s1, .inr (6, [.ref t1, .int 0, .int 0, .int 0])), (s2, .inr (6, [.ref t2, .int 0, .int 0, .int 0])), (s3, .inr (6, [.ref t3, .int 0, .int 0, .int 0])), (a9, .inl (g.2 4, 4, .inr (.inr (.inr (.inr (va_up (va_up (va_up (va_up (fun _ => none) 0 (some s0)) 1 (some s1)) 2 (some s2)) 3 (some s3)))))))] := hD
      subst hw
      exact retI C hS () (by unfold r_x_copy; rw [if_neg b1, if_neg b2, if_neg b13, if_neg b14]) (hP.pick [] rfl) (hD.sub [] rfl rfl) (Nat.le_of_ble_eq_true rfl) (Nat.le_of_ble_eq_true rfl) dX11_copy_52
    · refine nx_v (v := .ref s1) (by unfold r_c_sheetAt; rw [if_neg b13, if_neg b14, e15]; rfl) ?_
      refine lv_astore (lv' := [(7, .ref s1), (6, .ref s1), (0, .ref h0), (1, .int k), (2, .int i), (3, .int oth), (4, .int j), (5, .int n)]) hx hb dX11_copy_17 hl (by decide) rfl (fun ls hl => ?_)
      refine lv_aload hx hb dX11_copy_19 (lv_at hl 1 rfl) ?_
      refine lv_ifnull hx hb dX11_copy_21 ?_
      refine lv_aload hx hb dX11_copy_24 (lv_at hl 0 rfl) ?_
      refine lv_ifnonnull (tgt := 31) hx hb dX11_copy_26 (by decide) ?_
      refine lv_aload hx hb dX11_copy_31 (lv_at hl 1 rfl) ?_
      refine va_get (D := g.1) (ci := 6) (v := .int 0) (C := RX6) (T := TX6) (N := 4) hx hb hts hi_X11_copy_X6 hown hK hP 1 rfl rfl 1 (by decide) (hts (.fieldLink RX11 277 "OilPush$Sheet" "has" "Z") (by decide +kernel)) (fun _ h => h) rfl dX11_copy_33 ?_
      refine lv_if_eq (tgt := 47) hx hb dX11_copy_36 (by decide) (fun _ => ?_) (fun cc0 => absurd cc0 (by decide))
      refine lv_aload_n hx hb dX11_copy_47 rfl (lv_at hl 2 rfl) ?_
      refine lv_iconst (v := 1) hx hb dX11_copy_48 (by decide) ?_
      refine callIV (As := [.int 1]) (rest := []) (wr := [(s0, .inr (6, [.ref t0, .int 0, .int 0, .int 0])), (s1, .inr (6, [.ref t1, .int 0, .int 0, .int 0])), (s2, .inr (6, [.ref t2, .int 0, .int 0, .int 0])), (s3, .inr (6, [.ref t3, .int 0, .int 0, .int 0])), (a9, .inl (g.2 4, 4, .inr (.inr (.inr (.inr (va_up (va_up (va_up (va_up (fun _ => none) 0 (some s0)) 1 (some s1)) 2 (some s2)) 3 (some s3)))))))]) (Cn := RX11) C (c_faulted l g h0 a0 a1 a2 a3 a4 a5 a6 a7 a8 a9 a10 0 1) 1 gX11_copy_X11_faulted rfl (by decide +kernel) ⟨(Nat.le_of_ble_eq_true rfl), (Nat.le_of_ble_eq_true rfl)⟩ [4] [0, 1, 2, 3, 5] hP hD hA hS rfl rfl rfl rfl (by decide) (k := 4) (ci := 11) rfl rfl rfl rfl hl.1 rfl (Nat.le_of_ble_eq_true rfl) dX11_copy_49 ⟨(Nat.le_of_ble_eq_true rfl), (Nat.le_of_ble_eq_true rfl)⟩ (fun r _u H locs hw hP hD hS => ?_)
      have hP : va_P g.1 vwCl [(s0, .inr (6, [.ref t0, .int 0, .int 0, .int 0])), (s1, .inr (6, [.ref t1, .int 0, .int 0, .int 0])), (s2, .inr (6, [.ref t2, .int 0, .int 0, .int 0])), (s3, .inr (6, [.ref t3, .int 0, .int 0, .int 0])), (a9, .inl (g.2 4, 4, .inr (.inr (.inr (.inr (va_up (va_up (va_up (va_up (fun _ => none) 0 (some s0)) 1 (some s1)) 2 (some s2)) 3 (some s3)))))))] H := hP
      have hD : va_D A [(s0, .inr (6, [.ref t0, .int 0, .int 0, .int 0])), (s1, .inr (6, [.ref t1, .int 0, .int 0, .int 0])), (s2, .inr (6, [.ref t2, .int 0, .int 0, .int 0])), (s3, .inr (6, [.ref t3, .int 0, .int 0, .int 0])), (a9, .inl (g.2 4, 4, .inr (.inr (.inr (.inr (va_up (va_up (va_up (va_up (fun _ => none) 0 (some s0)) 1 (some s1)) 2 (some s2)) 3 (some s3)))))))] := hD
      subst hw
      exact retI C hS () (by unfold r_x_copy; rw [if_neg b1, if_neg b2, if_neg b13, if_neg b14]) (hP.pick [] rfl) (hD.sub [] rfl rfl) (Nat.le_of_ble_eq_true rfl) (Nat.le_of_ble_eq_true rfl) dX11_copy_52
    · refine nx_v (v := .ref s2) (by unfold r_c_sheetAt; rw [if_neg b13, if_neg b14, e15]; rfl) ?_
      refine lv_astore (lv' := [(7, .ref s2), (6, .ref s1), (0, .ref h0), (1, .int k), (2, .int i), (3, .int oth), (4, .int j), (5, .int n)]) hx hb dX11_copy_17 hl (by decide) rfl (fun ls hl => ?_)
      refine lv_aload hx hb dX11_copy_19 (lv_at hl 1 rfl) ?_
      refine lv_ifnull hx hb dX11_copy_21 ?_
      refine lv_aload hx hb dX11_copy_24 (lv_at hl 0 rfl) ?_
      refine lv_ifnonnull (tgt := 31) hx hb dX11_copy_26 (by decide) ?_
      refine lv_aload hx hb dX11_copy_31 (lv_at hl 1 rfl) ?_
      refine va_get (D := g.1) (ci := 6) (v := .int 0) (C := RX6) (T := TX6) (N := 4) hx hb hts hi_X11_copy_X6 hown hK hP 1 rfl rfl 1 (by decide) (hts (.fieldLink RX11 277 "OilPush$Sheet" "has" "Z") (by decide +kernel)) (fun _ h => h) rfl dX11_copy_33 ?_
      refine lv_if_eq (tgt := 47) hx hb dX11_copy_36 (by decide) (fun _ => ?_) (fun cc0 => absurd cc0 (by decide))
      refine lv_aload_n hx hb dX11_copy_47 rfl (lv_at hl 2 rfl) ?_
      refine lv_iconst (v := 1) hx hb dX11_copy_48 (by decide) ?_
      refine callIV (As := [.int 1]) (rest := []) (wr := [(s0, .inr (6, [.ref t0, .int 0, .int 0, .int 0])), (s1, .inr (6, [.ref t1, .int 0, .int 0, .int 0])), (s2, .inr (6, [.ref t2, .int 0, .int 0, .int 0])), (s3, .inr (6, [.ref t3, .int 0, .int 0, .int 0])), (a9, .inl (g.2 4, 4, .inr (.inr (.inr (.inr (va_up (va_up (va_up (va_up (fun _ => none) 0 (some s0)) 1 (some s1)) 2 (some s2)) 3 (some s3)))))))]) (Cn := RX11) C (c_faulted l g h0 a0 a1 a2 a3 a4 a5 a6 a7 a8 a9 a10 0 1) 1 gX11_copy_X11_faulted rfl (by decide +kernel) ⟨(Nat.le_of_ble_eq_true rfl), (Nat.le_of_ble_eq_true rfl)⟩ [4] [0, 1, 2, 3, 5] hP hD hA hS rfl rfl rfl rfl (by decide) (k := 4) (ci := 11) rfl rfl rfl rfl hl.1 rfl (Nat.le_of_ble_eq_true rfl) dX11_copy_49 ⟨(Nat.le_of_ble_eq_true rfl), (Nat.le_of_ble_eq_true rfl)⟩ (fun r _u H locs hw hP hD hS => ?_)
      have hP : va_P g.1 vwCl [(s0, .inr (6, [.ref t0, .int 0, .int 0, .int 0])), (s1, .inr (6, [.ref t1, .int 0, .int 0, .int 0])), (s2, .inr (6, [.ref t2, .int 0, .int 0, .int 0])), (s3, .inr (6, [.ref t3, .int 0, .int 0, .int 0])), (a9, .inl (g.2 4, 4, .inr (.inr (.inr (.inr (va_up (va_up (va_up (va_up (fun _ => none) 0 (some s0)) 1 (some s1)) 2 (some s2)) 3 (some s3)))))))] H := hP
      have hD : va_D A [(s0, .inr (6, [.ref t0, .int 0, .int 0, .int 0])), (s1, .inr (6, [.ref t1, .int 0, .int 0, .int 0])), (s2, .inr (6, [.ref t2, .int 0, .int 0, .int 0])), (s3, .inr (6, [.ref t3, .int 0, .int 0, .int 0])), (a9, .inl (g.2 4, 4, .inr (.inr (.inr (.inr (va_up (va_up (va_up (va_up (fun _ => none) 0 (some s0)) 1 (some s1)) 2 (some s2)) 3 (some s3)))))))] := hD
      subst hw
      exact retI C hS () (by unfold r_x_copy; rw [if_neg b1, if_neg b2, if_neg b13, if_neg b14]) (hP.pick [] rfl) (hD.sub [] rfl rfl) (Nat.le_of_ble_eq_true rfl) (Nat.le_of_ble_eq_true rfl) dX11_copy_52
    · refine nx_v (v := .ref s3) (by unfold r_c_sheetAt; rw [if_neg b13, if_neg b14, e15]; rfl) ?_
      refine lv_astore (lv' := [(7, .ref s3), (6, .ref s1), (0, .ref h0), (1, .int k), (2, .int i), (3, .int oth), (4, .int j), (5, .int n)]) hx hb dX11_copy_17 hl (by decide) rfl (fun ls hl => ?_)
      refine lv_aload hx hb dX11_copy_19 (lv_at hl 1 rfl) ?_
      refine lv_ifnull hx hb dX11_copy_21 ?_
      refine lv_aload hx hb dX11_copy_24 (lv_at hl 0 rfl) ?_
      refine lv_ifnonnull (tgt := 31) hx hb dX11_copy_26 (by decide) ?_
      refine lv_aload hx hb dX11_copy_31 (lv_at hl 1 rfl) ?_
      refine va_get (D := g.1) (ci := 6) (v := .int 0) (C := RX6) (T := TX6) (N := 4) hx hb hts hi_X11_copy_X6 hown hK hP 1 rfl rfl 1 (by decide) (hts (.fieldLink RX11 277 "OilPush$Sheet" "has" "Z") (by decide +kernel)) (fun _ h => h) rfl dX11_copy_33 ?_
      refine lv_if_eq (tgt := 47) hx hb dX11_copy_36 (by decide) (fun _ => ?_) (fun cc0 => absurd cc0 (by decide))
      refine lv_aload_n hx hb dX11_copy_47 rfl (lv_at hl 2 rfl) ?_
      refine lv_iconst (v := 1) hx hb dX11_copy_48 (by decide) ?_
      refine callIV (As := [.int 1]) (rest := []) (wr := [(s0, .inr (6, [.ref t0, .int 0, .int 0, .int 0])), (s1, .inr (6, [.ref t1, .int 0, .int 0, .int 0])), (s2, .inr (6, [.ref t2, .int 0, .int 0, .int 0])), (s3, .inr (6, [.ref t3, .int 0, .int 0, .int 0])), (a9, .inl (g.2 4, 4, .inr (.inr (.inr (.inr (va_up (va_up (va_up (va_up (fun _ => none) 0 (some s0)) 1 (some s1)) 2 (some s2)) 3 (some s3)))))))]) (Cn := RX11) C (c_faulted l g h0 a0 a1 a2 a3 a4 a5 a6 a7 a8 a9 a10 0 1) 1 gX11_copy_X11_faulted rfl (by decide +kernel) ⟨(Nat.le_of_ble_eq_true rfl), (Nat.le_of_ble_eq_true rfl)⟩ [4] [0, 1, 2, 3, 5] hP hD hA hS rfl rfl rfl rfl (by decide) (k := 4) (ci := 11) rfl rfl rfl rfl hl.1 rfl (Nat.le_of_ble_eq_true rfl) dX11_copy_49 ⟨(Nat.le_of_ble_eq_true rfl), (Nat.le_of_ble_eq_true rfl)⟩ (fun r _u H locs hw hP hD hS => ?_)
      have hP : va_P g.1 vwCl [(s0, .inr (6, [.ref t0, .int 0, .int 0, .int 0])), (s1, .inr (6, [.ref t1, .int 0, .int 0, .int 0])), (s2, .inr (6, [.ref t2, .int 0, .int 0, .int 0])), (s3, .inr (6, [.ref t3, .int 0, .int 0, .int 0])), (a9, .inl (g.2 4, 4, .inr (.inr (.inr (.inr (va_up (va_up (va_up (va_up (fun _ => none) 0 (some s0)) 1 (some s1)) 2 (some s2)) 3 (some s3)))))))] H := hP
      have hD : va_D A [(s0, .inr (6, [.ref t0, .int 0, .int 0, .int 0])), (s1, .inr (6, [.ref t1, .int 0, .int 0, .int 0])), (s2, .inr (6, [.ref t2, .int 0, .int 0, .int 0])), (s3, .inr (6, [.ref t3, .int 0, .int 0, .int 0])), (a9, .inl (g.2 4, 4, .inr (.inr (.inr (.inr (va_up (va_up (va_up (va_up (fun _ => none) 0 (some s0)) 1 (some s1)) 2 (some s2)) 3 (some s3)))))))] := hD
      subst hw
      exact retI C hS () (by unfold r_x_copy; rw [if_neg b1, if_neg b2, if_neg b13, if_neg b14]) (hP.pick [] rfl) (hD.sub [] rfl rfl) (Nat.le_of_ble_eq_true rfl) (Nat.le_of_ble_eq_true rfl) dX11_copy_52
  · refine nx_v (v := .ref s2) (by unfold r_c_sheetAt; rw [if_neg b1, if_neg b2, e9]; rfl) ?_
    refine lv_astore (lv' := [(6, .ref s2), (0, .ref h0), (1, .int k), (2, .int i), (3, .int oth), (4, .int j), (5, .int n)]) hx hb dX11_copy_10 hl (by decide) rfl (fun ls hl => ?_)
    refine lv_aload_n hx hb dX11_copy_12 rfl (lv_at hl 1 rfl) ?_
    refine lv_iload_n hx hb dX11_copy_13 rfl (lv_at hl 4 rfl) ?_
    refine callQV (As := [.int oth]) (rest := []) (wr := [(s0, .inr (6, [.ref t0, .int 0, .int 0, .int 0])), (s1, .inr (6, [.ref t1, .int 0, .int 0, .int 0])), (s2, .inr (6, [.ref t2, .int 0, .int 0, .int 0])), (s3, .inr (6, [.ref t3, .int 0, .int 0, .int 0]))]) (Cn := RX11) C (c_sheetAt l g h0 a0 a1 a2 a3 a4 a5 a6 a7 a8 a9 a10 s0 s1 s2 s3 oth) 1 gX11_copy_X11_sheetAt rfl (by decide +kernel) ⟨(Nat.le_of_ble_eq_true rfl), (Nat.le_of_ble_eq_true rfl)⟩ [4, 5] [0, 1, 2, 3] hP hD hA hS rfl rfl rfl rfl (by decide) (k := 4) (ci := 11) rfl rfl rfl rfl hl.1 rfl (Nat.le_of_ble_eq_true rfl) dX11_copy_14 ⟨(Nat.le_of_ble_eq_true rfl), (Nat.le_of_ble_eq_true rfl)⟩ (fun r _u H locs hw hP hD hS => ?_)
    have hP : va_P g.1 vwCl [(s0, .inr (6, [.ref t0, .int 0, .int 0, .int 0])), (s1, .inr (6, [.ref t1, .int 0, .int 0, .int 0])), (s2, .inr (6, [.ref t2, .int 0, .int 0, .int 0])), (s3, .inr (6, [.ref t3, .int 0, .int 0, .int 0])), (h0, .inr (11, [.ref a0, .ref a1, .ref a2, .ref a3, .ref a4, .ref a5, .ref a6, .ref a7, .ref a8, .ref a9, .ref a10, .int 0, .int 0, .int 0, .int 0])), (a9, .inl (g.2 4, 4, .inr (.inr (.inr (.inr (va_up (va_up (va_up (va_up (fun _ => none) 0 (some s0)) 1 (some s1)) 2 (some s2)) 3 (some s3)))))))] H := hP
    have hD : va_D A [(s0, .inr (6, [.ref t0, .int 0, .int 0, .int 0])), (s1, .inr (6, [.ref t1, .int 0, .int 0, .int 0])), (s2, .inr (6, [.ref t2, .int 0, .int 0, .int 0])), (s3, .inr (6, [.ref t3, .int 0, .int 0, .int 0])), (h0, .inr (11, [.ref a0, .ref a1, .ref a2, .ref a3, .ref a4, .ref a5, .ref a6, .ref a7, .ref a8, .ref a9, .ref a10, .int 0, .int 0, .int 0, .int 0])), (a9, .inl (g.2 4, 4, .inr (.inr (.inr (.inr (va_up (va_up (va_up (va_up (fun _ => none) 0 (some s0)) 1 (some s1)) 2 (some s2)) 3 (some s3)))))))] := hD
    subst hw
    by_cases b16 : oth < 0
    · refine nx_v (v := .null) (by unfold r_c_sheetAt; rw [if_pos b16]; rfl) ?_
      refine lv_astoreN (lv' := [(7, .null), (6, .ref s2), (0, .ref h0), (1, .int k), (2, .int i), (3, .int oth), (4, .int j), (5, .int n)]) hx hb dX11_copy_17 hl (by decide) rfl (fun ls hl => ?_)
      refine lv_aload hx hb dX11_copy_19 (lv_at hl 1 rfl) ?_
      refine lv_ifnull hx hb dX11_copy_21 ?_
      refine lv_aloadN hx hb dX11_copy_24 (lv_at hl 0 rfl) ?_
      refine lv_ifnonnullN hx hb dX11_copy_26 ?_
      refine lv_iconst (v := -1) hx hb dX11_copy_29 (by decide) ?_
      exact retI C hS () (by unfold r_x_copy; rw [if_neg b1, if_neg b2, if_pos b16]) (hP.pick [] rfl) (hD.sub [] rfl rfl) (Nat.le_of_ble_eq_true rfl) (Nat.le_of_ble_eq_true rfl) dX11_copy_30
    by_cases b17 : 4 ≤ oth
    · refine nx_v (v := .null) (by unfold r_c_sheetAt; rw [if_neg b16, if_pos b17]; rfl) ?_
      refine lv_astoreN (lv' := [(7, .null), (6, .ref s2), (0, .ref h0), (1, .int k), (2, .int i), (3, .int oth), (4, .int j), (5, .int n)]) hx hb dX11_copy_17 hl (by decide) rfl (fun ls hl => ?_)
      refine lv_aload hx hb dX11_copy_19 (lv_at hl 1 rfl) ?_
      refine lv_ifnull hx hb dX11_copy_21 ?_
      refine lv_aloadN hx hb dX11_copy_24 (lv_at hl 0 rfl) ?_
      refine lv_ifnonnullN hx hb dX11_copy_26 ?_
      refine lv_iconst (v := -1) hx hb dX11_copy_29 (by decide) ?_
      exact retI C hS () (by unfold r_x_copy; rw [if_neg b1, if_neg b2, if_neg b16, if_pos b17]) (hP.pick [] rfl) (hD.sub [] rfl rfl) (Nat.le_of_ble_eq_true rfl) (Nat.le_of_ble_eq_true rfl) dX11_copy_30
    rcases in4 b16 b17 with e18 | e18 | e18 | e18
    · refine nx_v (v := .ref s0) (by unfold r_c_sheetAt; rw [if_neg b16, if_neg b17, e18]; rfl) ?_
      refine lv_astore (lv' := [(7, .ref s0), (6, .ref s2), (0, .ref h0), (1, .int k), (2, .int i), (3, .int oth), (4, .int j), (5, .int n)]) hx hb dX11_copy_17 hl (by decide) rfl (fun ls hl => ?_)
      refine lv_aload hx hb dX11_copy_19 (lv_at hl 1 rfl) ?_
      refine lv_ifnull hx hb dX11_copy_21 ?_
      refine lv_aload hx hb dX11_copy_24 (lv_at hl 0 rfl) ?_
      refine lv_ifnonnull (tgt := 31) hx hb dX11_copy_26 (by decide) ?_
      refine lv_aload hx hb dX11_copy_31 (lv_at hl 1 rfl) ?_
      refine va_get (D := g.1) (ci := 6) (v := .int 0) (C := RX6) (T := TX6) (N := 4) hx hb hts hi_X11_copy_X6 hown hK hP 2 rfl rfl 1 (by decide) (hts (.fieldLink RX11 277 "OilPush$Sheet" "has" "Z") (by decide +kernel)) (fun _ h => h) rfl dX11_copy_33 ?_
      refine lv_if_eq (tgt := 47) hx hb dX11_copy_36 (by decide) (fun _ => ?_) (fun cc0 => absurd cc0 (by decide))
      refine lv_aload_n hx hb dX11_copy_47 rfl (lv_at hl 2 rfl) ?_
      refine lv_iconst (v := 1) hx hb dX11_copy_48 (by decide) ?_
      refine callIV (As := [.int 1]) (rest := []) (wr := [(s0, .inr (6, [.ref t0, .int 0, .int 0, .int 0])), (s1, .inr (6, [.ref t1, .int 0, .int 0, .int 0])), (s2, .inr (6, [.ref t2, .int 0, .int 0, .int 0])), (s3, .inr (6, [.ref t3, .int 0, .int 0, .int 0])), (a9, .inl (g.2 4, 4, .inr (.inr (.inr (.inr (va_up (va_up (va_up (va_up (fun _ => none) 0 (some s0)) 1 (some s1)) 2 (some s2)) 3 (some s3)))))))]) (Cn := RX11) C (c_faulted l g h0 a0 a1 a2 a3 a4 a5 a6 a7 a8 a9 a10 0 1) 1 gX11_copy_X11_faulted rfl (by decide +kernel) ⟨(Nat.le_of_ble_eq_true rfl), (Nat.le_of_ble_eq_true rfl)⟩ [4] [0, 1, 2, 3, 5] hP hD hA hS rfl rfl rfl rfl (by decide) (k := 4) (ci := 11) rfl rfl rfl rfl hl.1 rfl (Nat.le_of_ble_eq_true rfl) dX11_copy_49 ⟨(Nat.le_of_ble_eq_true rfl), (Nat.le_of_ble_eq_true rfl)⟩ (fun r _u H locs hw hP hD hS => ?_)
      have hP : va_P g.1 vwCl [(s0, .inr (6, [.ref t0, .int 0, .int 0, .int 0])), (s1, .inr (6, [.ref t1, .int 0, .int 0, .int 0])), (s2, .inr (6, [.ref t2, .int 0, .int 0, .int 0])), (s3, .inr (6, [.ref t3, .int 0, .int 0, .int 0])), (a9, .inl (g.2 4, 4, .inr (.inr (.inr (.inr (va_up (va_up (va_up (va_up (fun _ => none) 0 (some s0)) 1 (some s1)) 2 (some s2)) 3 (some s3)))))))] H := hP
      have hD : va_D A [(s0, .inr (6, [.ref t0, .int 0, .int 0, .int 0])), (s1, .inr (6, [.ref t1, .int 0, .int 0, .int 0])), (s2, .inr (6, [.ref t2, .int 0, .int 0, .int 0])), (s3, .inr (6, [.ref t3, .int 0, .int 0, .int 0])), (a9, .inl (g.2 4, 4, .inr (.inr (.inr (.inr (va_up (va_up (va_up (va_up (fun _ => none) 0 (some s0)) 1 (some s1)) 2 (some s2)) 3 (some s3)))))))] := hD
      subst hw
      exact retI C hS () (by unfold r_x_copy; rw [if_neg b1, if_neg b2, if_neg b16, if_neg b17]) (hP.pick [] rfl) (hD.sub [] rfl rfl) (Nat.le_of_ble_eq_true rfl) (Nat.le_of_ble_eq_true rfl) dX11_copy_52
    · refine nx_v (v := .ref s1) (by unfold r_c_sheetAt; rw [if_neg b16, if_neg b17, e18]; rfl) ?_
      refine lv_astore (lv' := [(7, .ref s1), (6, .ref s2), (0, .ref h0), (1, .int k), (2, .int i), (3, .int oth), (4, .int j), (5, .int n)]) hx hb dX11_copy_17 hl (by decide) rfl (fun ls hl => ?_)
      refine lv_aload hx hb dX11_copy_19 (lv_at hl 1 rfl) ?_
      refine lv_ifnull hx hb dX11_copy_21 ?_
      refine lv_aload hx hb dX11_copy_24 (lv_at hl 0 rfl) ?_
      refine lv_ifnonnull (tgt := 31) hx hb dX11_copy_26 (by decide) ?_
      refine lv_aload hx hb dX11_copy_31 (lv_at hl 1 rfl) ?_
      refine va_get (D := g.1) (ci := 6) (v := .int 0) (C := RX6) (T := TX6) (N := 4) hx hb hts hi_X11_copy_X6 hown hK hP 2 rfl rfl 1 (by decide) (hts (.fieldLink RX11 277 "OilPush$Sheet" "has" "Z") (by decide +kernel)) (fun _ h => h) rfl dX11_copy_33 ?_
      refine lv_if_eq (tgt := 47) hx hb dX11_copy_36 (by decide) (fun _ => ?_) (fun cc0 => absurd cc0 (by decide))
      refine lv_aload_n hx hb dX11_copy_47 rfl (lv_at hl 2 rfl) ?_
      refine lv_iconst (v := 1) hx hb dX11_copy_48 (by decide) ?_
      refine callIV (As := [.int 1]) (rest := []) (wr := [(s0, .inr (6, [.ref t0, .int 0, .int 0, .int 0])), (s1, .inr (6, [.ref t1, .int 0, .int 0, .int 0])), (s2, .inr (6, [.ref t2, .int 0, .int 0, .int 0])), (s3, .inr (6, [.ref t3, .int 0, .int 0, .int 0])), (a9, .inl (g.2 4, 4, .inr (.inr (.inr (.inr (va_up (va_up (va_up (va_up (fun _ => none) 0 (some s0)) 1 (some s1)) 2 (some s2)) 3 (some s3)))))))]) (Cn := RX11) C (c_faulted l g h0 a0 a1 a2 a3 a4 a5 a6 a7 a8 a9 a10 0 1) 1 gX11_copy_X11_faulted rfl (by decide +kernel) ⟨(Nat.le_of_ble_eq_true rfl), (Nat.le_of_ble_eq_true rfl)⟩ [4] [0, 1, 2, 3, 5] hP hD hA hS rfl rfl rfl rfl (by decide) (k := 4) (ci := 11) rfl rfl rfl rfl hl.1 rfl (Nat.le_of_ble_eq_true rfl) dX11_copy_49 ⟨(Nat.le_of_ble_eq_true rfl), (Nat.le_of_ble_eq_true rfl)⟩ (fun r _u H locs hw hP hD hS => ?_)
      have hP : va_P g.1 vwCl [(s0, .inr (6, [.ref t0, .int 0, .int 0, .int 0])), (s1, .inr (6, [.ref t1, .int 0, .int 0, .int 0])), (s2, .inr (6, [.ref t2, .int 0, .int 0, .int 0])), (s3, .inr (6, [.ref t3, .int 0, .int 0, .int 0])), (a9, .inl (g.2 4, 4, .inr (.inr (.inr (.inr (va_up (va_up (va_up (va_up (fun _ => none) 0 (some s0)) 1 (some s1)) 2 (some s2)) 3 (some s3)))))))] H := hP
      have hD : va_D A [(s0, .inr (6, [.ref t0, .int 0, .int 0, .int 0])), (s1, .inr (6, [.ref t1, .int 0, .int 0, .int 0])), (s2, .inr (6, [.ref t2, .int 0, .int 0, .int 0])), (s3, .inr (6, [.ref t3, .int 0, .int 0, .int 0])), (a9, .inl (g.2 4, 4, .inr (.inr (.inr (.inr (va_up (va_up (va_up (va_up (fun _ => none) 0 (some s0)) 1 (some s1)) 2 (some s2)) 3 (some s3)))))))] := hD
      subst hw
      exact retI C hS () (by unfold r_x_copy; rw [if_neg b1, if_neg b2, if_neg b16, if_neg b17]) (hP.pick [] rfl) (hD.sub [] rfl rfl) (Nat.le_of_ble_eq_true rfl) (Nat.le_of_ble_eq_true rfl) dX11_copy_52
    · refine nx_v (v := .ref s2) (by unfold r_c_sheetAt; rw [if_neg b16, if_neg b17, e18]; rfl) ?_
      refine lv_astore (lv' := [(7, .ref s2), (6, .ref s2), (0, .ref h0), (1, .int k), (2, .int i), (3, .int oth), (4, .int j), (5, .int n)]) hx hb dX11_copy_17 hl (by decide) rfl (fun ls hl => ?_)
      refine lv_aload hx hb dX11_copy_19 (lv_at hl 1 rfl) ?_
      refine lv_ifnull hx hb dX11_copy_21 ?_
      refine lv_aload hx hb dX11_copy_24 (lv_at hl 0 rfl) ?_
      refine lv_ifnonnull (tgt := 31) hx hb dX11_copy_26 (by decide) ?_
      refine lv_aload hx hb dX11_copy_31 (lv_at hl 1 rfl) ?_
      refine va_get (D := g.1) (ci := 6) (v := .int 0) (C := RX6) (T := TX6) (N := 4) hx hb hts hi_X11_copy_X6 hown hK hP 2 rfl rfl 1 (by decide) (hts (.fieldLink RX11 277 "OilPush$Sheet" "has" "Z") (by decide +kernel)) (fun _ h => h) rfl dX11_copy_33 ?_
      refine lv_if_eq (tgt := 47) hx hb dX11_copy_36 (by decide) (fun _ => ?_) (fun cc0 => absurd cc0 (by decide))
      refine lv_aload_n hx hb dX11_copy_47 rfl (lv_at hl 2 rfl) ?_
      refine lv_iconst (v := 1) hx hb dX11_copy_48 (by decide) ?_
      refine callIV (As := [.int 1]) (rest := []) (wr := [(s0, .inr (6, [.ref t0, .int 0, .int 0, .int 0])), (s1, .inr (6, [.ref t1, .int 0, .int 0, .int 0])), (s2, .inr (6, [.ref t2, .int 0, .int 0, .int 0])), (s3, .inr (6, [.ref t3, .int 0, .int 0, .int 0])), (a9, .inl (g.2 4, 4, .inr (.inr (.inr (.inr (va_up (va_up (va_up (va_up (fun _ => none) 0 (some s0)) 1 (some s1)) 2 (some s2)) 3 (some s3)))))))]) (Cn := RX11) C (c_faulted l g h0 a0 a1 a2 a3 a4 a5 a6 a7 a8 a9 a10 0 1) 1 gX11_copy_X11_faulted rfl (by decide +kernel) ⟨(Nat.le_of_ble_eq_true rfl), (Nat.le_of_ble_eq_true rfl)⟩ [4] [0, 1, 2, 3, 5] hP hD hA hS rfl rfl rfl rfl (by decide) (k := 4) (ci := 11) rfl rfl rfl rfl hl.1 rfl (Nat.le_of_ble_eq_true rfl) dX11_copy_49 ⟨(Nat.le_of_ble_eq_true rfl), (Nat.le_of_ble_eq_true rfl)⟩ (fun r _u H locs hw hP hD hS => ?_)
      have hP : va_P g.1 vwCl [(s0, .inr (6, [.ref t0, .int 0, .int 0, .int 0])), (s1, .inr (6, [.ref t1, .int 0, .int 0, .int 0])), (s2, .inr (6, [.ref t2, .int 0, .int 0, .int 0])), (s3, .inr (6, [.ref t3, .int 0, .int 0, .int 0])), (a9, .inl (g.2 4, 4, .inr (.inr (.inr (.inr (va_up (va_up (va_up (va_up (fun _ => none) 0 (some s0)) 1 (some s1)) 2 (some s2)) 3 (some s3)))))))] H := hP
      have hD : va_D A [(s0, .inr (6, [.ref t0, .int 0, .int 0, .int 0])), (s1, .inr (6, [.ref t1, .int 0, .int 0, .int 0])), (s2, .inr (6, [.ref t2, .int 0, .int 0, .int 0])), (s3, .inr (6, [.ref t3, .int 0, .int 0, .int 0])), (a9, .inl (g.2 4, 4, .inr (.inr (.inr (.inr (va_up (va_up (va_up (va_up (fun _ => none) 0 (some s0)) 1 (some s1)) 2 (some s2)) 3 (some s3)))))))] := hD
      subst hw
      exact retI C hS () (by unfold r_x_copy; rw [if_neg b1, if_neg b2, if_neg b16, if_neg b17]) (hP.pick [] rfl) (hD.sub [] rfl rfl) (Nat.le_of_ble_eq_true rfl) (Nat.le_of_ble_eq_true rfl) dX11_copy_52
    · refine nx_v (v := .ref s3) (by unfold r_c_sheetAt; rw [if_neg b16, if_neg b17, e18]; rfl) ?_
      refine lv_astore (lv' := [(7, .ref s3), (6, .ref s2), (0, .ref h0), (1, .int k), (2, .int i), (3, .int oth), (4, .int j), (5, .int n)]) hx hb dX11_copy_17 hl (by decide) rfl (fun ls hl => ?_)
      refine lv_aload hx hb dX11_copy_19 (lv_at hl 1 rfl) ?_
      refine lv_ifnull hx hb dX11_copy_21 ?_
      refine lv_aload hx hb dX11_copy_24 (lv_at hl 0 rfl) ?_
      refine lv_ifnonnull (tgt := 31) hx hb dX11_copy_26 (by decide) ?_
      refine lv_aload hx hb dX11_copy_31 (lv_at hl 1 rfl) ?_
      refine va_get (D := g.1) (ci := 6) (v := .int 0) (C := RX6) (T := TX6) (N := 4) hx hb hts hi_X11_copy_X6 hown hK hP 2 rfl rfl 1 (by decide) (hts (.fieldLink RX11 277 "OilPush$Sheet" "has" "Z") (by decide +kernel)) (fun _ h => h) rfl dX11_copy_33 ?_
      refine lv_if_eq (tgt := 47) hx hb dX11_copy_36 (by decide) (fun _ => ?_) (fun cc0 => absurd cc0 (by decide))
      refine lv_aload_n hx hb dX11_copy_47 rfl (lv_at hl 2 rfl) ?_
      refine lv_iconst (v := 1) hx hb dX11_copy_48 (by decide) ?_
      refine callIV (As := [.int 1]) (rest := []) (wr := [(s0, .inr (6, [.ref t0, .int 0, .int 0, .int 0])), (s1, .inr (6, [.ref t1, .int 0, .int 0, .int 0])), (s2, .inr (6, [.ref t2, .int 0, .int 0, .int 0])), (s3, .inr (6, [.ref t3, .int 0, .int 0, .int 0])), (a9, .inl (g.2 4, 4, .inr (.inr (.inr (.inr (va_up (va_up (va_up (va_up (fun _ => none) 0 (some s0)) 1 (some s1)) 2 (some s2)) 3 (some s3)))))))]) (Cn := RX11) C (c_faulted l g h0 a0 a1 a2 a3 a4 a5 a6 a7 a8 a9 a10 0 1) 1 gX11_copy_X11_faulted rfl (by decide +kernel) ⟨(Nat.le_of_ble_eq_true rfl), (Nat.le_of_ble_eq_true rfl)⟩ [4] [0, 1, 2, 3, 5] hP hD hA hS rfl rfl rfl rfl (by decide) (k := 4) (ci := 11) rfl rfl rfl rfl hl.1 rfl (Nat.le_of_ble_eq_true rfl) dX11_copy_49 ⟨(Nat.le_of_ble_eq_true rfl), (Nat.le_of_ble_eq_true rfl)⟩ (fun r _u H locs hw hP hD hS => ?_)
      have hP : va_P g.1 vwCl [(s0, .inr (6, [.ref t0, .int 0, .int 0, .int 0])), (s1, .inr (6, [.ref t1, .int 0, .int 0, .int 0])), (s2, .inr (6, [.ref t2, .int 0, .int 0, .int 0])), (s3, .inr (6, [.ref t3, .int 0, .int 0, .int 0])), (a9, .inl (g.2 4, 4, .inr (.inr (.inr (.inr (va_up (va_up (va_up (va_up (fun _ => none) 0 (some s0)) 1 (some s1)) 2 (some s2)) 3 (some s3)))))))] H := hP
      have hD : va_D A [(s0, .inr (6, [.ref t0, .int 0, .int 0, .int 0])), (s1, .inr (6, [.ref t1, .int 0, .int 0, .int 0])), (s2, .inr (6, [.ref t2, .int 0, .int 0, .int 0])), (s3, .inr (6, [.ref t3, .int 0, .int 0, .int 0])), (a9, .inl (g.2 4, 4, .inr (.inr (.inr (.inr (va_up (va_up (va_up (va_up (fun _ => none) 0 (some s0)) 1 (some s1)) 2 (some s2)) 3 (some s3)))))))] := hD
      subst hw
      exact retI C hS () (by unfold r_x_copy; rw [if_neg b1, if_neg b2, if_neg b16, if_neg b17]) (hP.pick [] rfl) (hD.sub [] rfl rfl) (Nat.le_of_ble_eq_true rfl) (Nat.le_of_ble_eq_true rfl) dX11_copy_52
  · refine nx_v (v := .ref s3) (by unfold r_c_sheetAt; rw [if_neg b1, if_neg b2, e9]; rfl) ?_
    refine lv_astore (lv' := [(6, .ref s3), (0, .ref h0), (1, .int k), (2, .int i), (3, .int oth), (4, .int j), (5, .int n)]) hx hb dX11_copy_10 hl (by decide) rfl (fun ls hl => ?_)
    refine lv_aload_n hx hb dX11_copy_12 rfl (lv_at hl 1 rfl) ?_
    refine lv_iload_n hx hb dX11_copy_13 rfl (lv_at hl 4 rfl) ?_
    refine callQV (As := [.int oth]) (rest := []) (wr := [(s0, .inr (6, [.ref t0, .int 0, .int 0, .int 0])), (s1, .inr (6, [.ref t1, .int 0, .int 0, .int 0])), (s2, .inr (6, [.ref t2, .int 0, .int 0, .int 0])), (s3, .inr (6, [.ref t3, .int 0, .int 0, .int 0]))]) (Cn := RX11) C (c_sheetAt l g h0 a0 a1 a2 a3 a4 a5 a6 a7 a8 a9 a10 s0 s1 s2 s3 oth) 1 gX11_copy_X11_sheetAt rfl (by decide +kernel) ⟨(Nat.le_of_ble_eq_true rfl), (Nat.le_of_ble_eq_true rfl)⟩ [4, 5] [0, 1, 2, 3] hP hD hA hS rfl rfl rfl rfl (by decide) (k := 4) (ci := 11) rfl rfl rfl rfl hl.1 rfl (Nat.le_of_ble_eq_true rfl) dX11_copy_14 ⟨(Nat.le_of_ble_eq_true rfl), (Nat.le_of_ble_eq_true rfl)⟩ (fun r _u H locs hw hP hD hS => ?_)
    have hP : va_P g.1 vwCl [(s0, .inr (6, [.ref t0, .int 0, .int 0, .int 0])), (s1, .inr (6, [.ref t1, .int 0, .int 0, .int 0])), (s2, .inr (6, [.ref t2, .int 0, .int 0, .int 0])), (s3, .inr (6, [.ref t3, .int 0, .int 0, .int 0])), (h0, .inr (11, [.ref a0, .ref a1, .ref a2, .ref a3, .ref a4, .ref a5, .ref a6, .ref a7, .ref a8, .ref a9, .ref a10, .int 0, .int 0, .int 0, .int 0])), (a9, .inl (g.2 4, 4, .inr (.inr (.inr (.inr (va_up (va_up (va_up (va_up (fun _ => none) 0 (some s0)) 1 (some s1)) 2 (some s2)) 3 (some s3)))))))] H := hP
    have hD : va_D A [(s0, .inr (6, [.ref t0, .int 0, .int 0, .int 0])), (s1, .inr (6, [.ref t1, .int 0, .int 0, .int 0])), (s2, .inr (6, [.ref t2, .int 0, .int 0, .int 0])), (s3, .inr (6, [.ref t3, .int 0, .int 0, .int 0])), (h0, .inr (11, [.ref a0, .ref a1, .ref a2, .ref a3, .ref a4, .ref a5, .ref a6, .ref a7, .ref a8, .ref a9, .ref a10, .int 0, .int 0, .int 0, .int 0])), (a9, .inl (g.2 4, 4, .inr (.inr (.inr (.inr (va_up (va_up (va_up (va_up (fun _ => none) 0 (some s0)) 1 (some s1)) 2 (some s2)) 3 (some s3)))))))] := hD
    subst hw
    by_cases b19 : oth < 0
    · refine nx_v (v := .null) (by unfold r_c_sheetAt; rw [if_pos b19]; rfl) ?_
      refine lv_astoreN (lv' := [(7, .null), (6, .ref s3), (0, .ref h0), (1, .int k), (2, .int i), (3, .int oth), (4, .int j), (5, .int n)]) hx hb dX11_copy_17 hl (by decide) rfl (fun ls hl => ?_)
      refine lv_aload hx hb dX11_copy_19 (lv_at hl 1 rfl) ?_
      refine lv_ifnull hx hb dX11_copy_21 ?_
      refine lv_aloadN hx hb dX11_copy_24 (lv_at hl 0 rfl) ?_
      refine lv_ifnonnullN hx hb dX11_copy_26 ?_
      refine lv_iconst (v := -1) hx hb dX11_copy_29 (by decide) ?_
      exact retI C hS () (by unfold r_x_copy; rw [if_neg b1, if_neg b2, if_pos b19]) (hP.pick [] rfl) (hD.sub [] rfl rfl) (Nat.le_of_ble_eq_true rfl) (Nat.le_of_ble_eq_true rfl) dX11_copy_30
    by_cases b20 : 4 ≤ oth
    · refine nx_v (v := .null) (by unfold r_c_sheetAt; rw [if_neg b19, if_pos b20]; rfl) ?_
      refine lv_astoreN (lv' := [(7, .null), (6, .ref s3), (0, .ref h0), (1, .int k), (2, .int i), (3, .int oth), (4, .int j), (5, .int n)]) hx hb dX11_copy_17 hl (by decide) rfl (fun ls hl => ?_)
      refine lv_aload hx hb dX11_copy_19 (lv_at hl 1 rfl) ?_
      refine lv_ifnull hx hb dX11_copy_21 ?_
      refine lv_aloadN hx hb dX11_copy_24 (lv_at hl 0 rfl) ?_
      refine lv_ifnonnullN hx hb dX11_copy_26 ?_
      refine lv_iconst (v := -1) hx hb dX11_copy_29 (by decide) ?_
      exact retI C hS () (by unfold r_x_copy; rw [if_neg b1, if_neg b2, if_neg b19, if_pos b20]) (hP.pick [] rfl) (hD.sub [] rfl rfl) (Nat.le_of_ble_eq_true rfl) (Nat.le_of_ble_eq_true rfl) dX11_copy_30
    rcases in4 b19 b20 with e21 | e21 | e21 | e21
    · refine nx_v (v := .ref s0) (by unfold r_c_sheetAt; rw [if_neg b19, if_neg b20, e21]; rfl) ?_
      refine lv_astore (lv' := [(7, .ref s0), (6, .ref s3), (0, .ref h0), (1, .int k), (2, .int i), (3, .int oth), (4, .int j), (5, .int n)]) hx hb dX11_copy_17 hl (by decide) rfl (fun ls hl => ?_)
      refine lv_aload hx hb dX11_copy_19 (lv_at hl 1 rfl) ?_
      refine lv_ifnull hx hb dX11_copy_21 ?_
      refine lv_aload hx hb dX11_copy_24 (lv_at hl 0 rfl) ?_
      refine lv_ifnonnull (tgt := 31) hx hb dX11_copy_26 (by decide) ?_
      refine lv_aload hx hb dX11_copy_31 (lv_at hl 1 rfl) ?_
      refine va_get (D := g.1) (ci := 6) (v := .int 0) (C := RX6) (T := TX6) (N := 4) hx hb hts hi_X11_copy_X6 hown hK hP 3 rfl rfl 1 (by decide) (hts (.fieldLink RX11 277 "OilPush$Sheet" "has" "Z") (by decide +kernel)) (fun _ h => h) rfl dX11_copy_33 ?_
      refine lv_if_eq (tgt := 47) hx hb dX11_copy_36 (by decide) (fun _ => ?_) (fun cc0 => absurd cc0 (by decide))
      refine lv_aload_n hx hb dX11_copy_47 rfl (lv_at hl 2 rfl) ?_
      refine lv_iconst (v := 1) hx hb dX11_copy_48 (by decide) ?_
      refine callIV (As := [.int 1]) (rest := []) (wr := [(s0, .inr (6, [.ref t0, .int 0, .int 0, .int 0])), (s1, .inr (6, [.ref t1, .int 0, .int 0, .int 0])), (s2, .inr (6, [.ref t2, .int 0, .int 0, .int 0])), (s3, .inr (6, [.ref t3, .int 0, .int 0, .int 0])), (a9, .inl (g.2 4, 4, .inr (.inr (.inr (.inr (va_up (va_up (va_up (va_up (fun _ => none) 0 (some s0)) 1 (some s1)) 2 (some s2)) 3 (some s3)))))))]) (Cn := RX11) C (c_faulted l g h0 a0 a1 a2 a3 a4 a5 a6 a7 a8 a9 a10 0 1) 1 gX11_copy_X11_faulted rfl (by decide +kernel) ⟨(Nat.le_of_ble_eq_true rfl), (Nat.le_of_ble_eq_true rfl)⟩ [4] [0, 1, 2, 3, 5] hP hD hA hS rfl rfl rfl rfl (by decide) (k := 4) (ci := 11) rfl rfl rfl rfl hl.1 rfl (Nat.le_of_ble_eq_true rfl) dX11_copy_49 ⟨(Nat.le_of_ble_eq_true rfl), (Nat.le_of_ble_eq_true rfl)⟩ (fun r _u H locs hw hP hD hS => ?_)
      have hP : va_P g.1 vwCl [(s0, .inr (6, [.ref t0, .int 0, .int 0, .int 0])), (s1, .inr (6, [.ref t1, .int 0, .int 0, .int 0])), (s2, .inr (6, [.ref t2, .int 0, .int 0, .int 0])), (s3, .inr (6, [.ref t3, .int 0, .int 0, .int 0])), (a9, .inl (g.2 4, 4, .inr (.inr (.inr (.inr (va_up (va_up (va_up (va_up (fun _ => none) 0 (some s0)) 1 (some s1)) 2 (some s2)) 3 (some s3)))))))] H := hP
      have hD : va_D A [(s0, .inr (6, [.ref t0, .int 0, .int 0, .int 0])), (s1, .inr (6, [.ref t1, .int 0, .int 0, .int 0])), (s2, .inr (6, [.ref t2, .int 0, .int 0, .int 0])), (s3, .inr (6, [.ref t3, .int 0, .int 0, .int 0])), (a9, .inl (g.2 4, 4, .inr (.inr (.inr (.inr (va_up (va_up (va_up (va_up (fun _ => none) 0 (some s0)) 1 (some s1)) 2 (some s2)) 3 (some s3)))))))] := hD
      subst hw
      exact retI C hS () (by unfold r_x_copy; rw [if_neg b1, if_neg b2, if_neg b19, if_neg b20]) (hP.pick [] rfl) (hD.sub [] rfl rfl) (Nat.le_of_ble_eq_true rfl) (Nat.le_of_ble_eq_true rfl) dX11_copy_52
    · refine nx_v (v := .ref s1) (by unfold r_c_sheetAt; rw [if_neg b19, if_neg b20, e21]; rfl) ?_
      refine lv_astore (lv' := [(7, .ref s1), (6, .ref s3), (0, .ref h0), (1, .int k), (2, .int i), (3, .int oth), (4, .int j), (5, .int n)]) hx hb dX11_copy_17 hl (by decide) rfl (fun ls hl => ?_)
      refine lv_aload hx hb dX11_copy_19 (lv_at hl 1 rfl) ?_
      refine lv_ifnull hx hb dX11_copy_21 ?_
      refine lv_aload hx hb dX11_copy_24 (lv_at hl 0 rfl) ?_
      refine lv_ifnonnull (tgt := 31) hx hb dX11_copy_26 (by decide) ?_
      refine lv_aload hx hb dX11_copy_31 (lv_at hl 1 rfl) ?_
      refine va_get (D := g.1) (ci := 6) (v := .int 0) (C := RX6) (T := TX6) (N := 4) hx hb hts hi_X11_copy_X6 hown hK hP 3 rfl rfl 1 (by decide) (hts (.fieldLink RX11 277 "OilPush$Sheet" "has" "Z") (by decide +kernel)) (fun _ h => h) rfl dX11_copy_33 ?_
      refine lv_if_eq (tgt := 47) hx hb dX11_copy_36 (by decide) (fun _ => ?_) (fun cc0 => absurd cc0 (by decide))
      refine lv_aload_n hx hb dX11_copy_47 rfl (lv_at hl 2 rfl) ?_
      refine lv_iconst (v := 1) hx hb dX11_copy_48 (by decide) ?_
      refine callIV (As := [.int 1]) (rest := []) (wr := [(s0, .inr (6, [.ref t0, .int 0, .int 0, .int 0])), (s1, .inr (6, [.ref t1, .int 0, .int 0, .int 0])), (s2, .inr (6, [.ref t2, .int 0, .int 0, .int 0])), (s3, .inr (6, [.ref t3, .int 0, .int 0, .int 0])), (a9, .inl (g.2 4, 4, .inr (.inr (.inr (.inr (va_up (va_up (va_up (va_up (fun _ => none) 0 (some s0)) 1 (some s1)) 2 (some s2)) 3 (some s3)))))))]) (Cn := RX11) C (c_faulted l g h0 a0 a1 a2 a3 a4 a5 a6 a7 a8 a9 a10 0 1) 1 gX11_copy_X11_faulted rfl (by decide +kernel) ⟨(Nat.le_of_ble_eq_true rfl), (Nat.le_of_ble_eq_true rfl)⟩ [4] [0, 1, 2, 3, 5] hP hD hA hS rfl rfl rfl rfl (by decide) (k := 4) (ci := 11) rfl rfl rfl rfl hl.1 rfl (Nat.le_of_ble_eq_true rfl) dX11_copy_49 ⟨(Nat.le_of_ble_eq_true rfl), (Nat.le_of_ble_eq_true rfl)⟩ (fun r _u H locs hw hP hD hS => ?_)
      have hP : va_P g.1 vwCl [(s0, .inr (6, [.ref t0, .int 0, .int 0, .int 0])), (s1, .inr (6, [.ref t1, .int 0, .int 0, .int 0])), (s2, .inr (6, [.ref t2, .int 0, .int 0, .int 0])), (s3, .inr (6, [.ref t3, .int 0, .int 0, .int 0])), (a9, .inl (g.2 4, 4, .inr (.inr (.inr (.inr (va_up (va_up (va_up (va_up (fun _ => none) 0 (some s0)) 1 (some s1)) 2 (some s2)) 3 (some s3)))))))] H := hP
      have hD : va_D A [(s0, .inr (6, [.ref t0, .int 0, .int 0, .int 0])), (s1, .inr (6, [.ref t1, .int 0, .int 0, .int 0])), (s2, .inr (6, [.ref t2, .int 0, .int 0, .int 0])), (s3, .inr (6, [.ref t3, .int 0, .int 0, .int 0])), (a9, .inl (g.2 4, 4, .inr (.inr (.inr (.inr (va_up (va_up (va_up (va_up (fun _ => none) 0 (some s0)) 1 (some s1)) 2 (some s2)) 3 (some s3)))))))] := hD
      subst hw
      exact retI C hS () (by unfold r_x_copy; rw [if_neg b1, if_neg b2, if_neg b19, if_neg b20]) (hP.pick [] rfl) (hD.sub [] rfl rfl) (Nat.le_of_ble_eq_true rfl) (Nat.le_of_ble_eq_true rfl) dX11_copy_52
    · refine nx_v (v := .ref s2) (by unfold r_c_sheetAt; rw [if_neg b19, if_neg b20, e21]; rfl) ?_
      refine lv_astore (lv' := [(7, .ref s2), (6, .ref s3), (0, .ref h0), (1, .int k), (2, .int i), (3, .int oth), (4, .int j), (5, .int n)]) hx hb dX11_copy_17 hl (by decide) rfl (fun ls hl => ?_)
      refine lv_aload hx hb dX11_copy_19 (lv_at hl 1 rfl) ?_
      refine lv_ifnull hx hb dX11_copy_21 ?_
      refine lv_aload hx hb dX11_copy_24 (lv_at hl 0 rfl) ?_
      refine lv_ifnonnull (tgt := 31) hx hb dX11_copy_26 (by decide) ?_
      refine lv_aload hx hb dX11_copy_31 (lv_at hl 1 rfl) ?_
      refine va_get (D := g.1) (ci := 6) (v := .int 0) (C := RX6) (T := TX6) (N := 4) hx hb hts hi_X11_copy_X6 hown hK hP 3 rfl rfl 1 (by decide) (hts (.fieldLink RX11 277 "OilPush$Sheet" "has" "Z") (by decide +kernel)) (fun _ h => h) rfl dX11_copy_33 ?_
      refine lv_if_eq (tgt := 47) hx hb dX11_copy_36 (by decide) (fun _ => ?_) (fun cc0 => absurd cc0 (by decide))
      refine lv_aload_n hx hb dX11_copy_47 rfl (lv_at hl 2 rfl) ?_
      refine lv_iconst (v := 1) hx hb dX11_copy_48 (by decide) ?_
      refine callIV (As := [.int 1]) (rest := []) (wr := [(s0, .inr (6, [.ref t0, .int 0, .int 0, .int 0])), (s1, .inr (6, [.ref t1, .int 0, .int 0, .int 0])), (s2, .inr (6, [.ref t2, .int 0, .int 0, .int 0])), (s3, .inr (6, [.ref t3, .int 0, .int 0, .int 0])), (a9, .inl (g.2 4, 4, .inr (.inr (.inr (.inr (va_up (va_up (va_up (va_up (fun _ => none) 0 (some s0)) 1 (some s1)) 2 (some s2)) 3 (some s3)))))))]) (Cn := RX11) C (c_faulted l g h0 a0 a1 a2 a3 a4 a5 a6 a7 a8 a9 a10 0 1) 1 gX11_copy_X11_faulted rfl (by decide +kernel) ⟨(Nat.le_of_ble_eq_true rfl), (Nat.le_of_ble_eq_true rfl)⟩ [4] [0, 1, 2, 3, 5] hP hD hA hS rfl rfl rfl rfl (by decide) (k := 4) (ci := 11) rfl rfl rfl rfl hl.1 rfl (Nat.le_of_ble_eq_true rfl) dX11_copy_49 ⟨(Nat.le_of_ble_eq_true rfl), (Nat.le_of_ble_eq_true rfl)⟩ (fun r _u H locs hw hP hD hS => ?_)
      have hP : va_P g.1 vwCl [(s0, .inr (6, [.ref t0, .int 0, .int 0, .int 0])), (s1, .inr (6, [.ref t1, .int 0, .int 0, .int 0])), (s2, .inr (6, [.ref t2, .int 0, .int 0, .int 0])), (s3, .inr (6, [.ref t3, .int 0, .int 0, .int 0])), (a9, .inl (g.2 4, 4, .inr (.inr (.inr (.inr (va_up (va_up (va_up (va_up (fun _ => none) 0 (some s0)) 1 (some s1)) 2 (some s2)) 3 (some s3)))))))] H := hP
      have hD : va_D A [(s0, .inr (6, [.ref t0, .int 0, .int 0, .int 0])), (s1, .inr (6, [.ref t1, .int 0, .int 0, .int 0])), (s2, .inr (6, [.ref t2, .int 0, .int 0, .int 0])), (s3, .inr (6, [.ref t3, .int 0, .int 0, .int 0])), (a9, .inl (g.2 4, 4, .inr (.inr (.inr (.inr (va_up (va_up (va_up (va_up (fun _ => none) 0 (some s0)) 1 (some s1)) 2 (some s2)) 3 (some s3)))))))] := hD
      subst hw
      exact retI C hS () (by unfold r_x_copy; rw [if_neg b1, if_neg b2, if_neg b19, if_neg b20]) (hP.pick [] rfl) (hD.sub [] rfl rfl) (Nat.le_of_ble_eq_true rfl) (Nat.le_of_ble_eq_true rfl) dX11_copy_52
    · refine nx_v (v := .ref s3) (by unfold r_c_sheetAt; rw [if_neg b19, if_neg b20, e21]; rfl) ?_
      refine lv_astore (lv' := [(7, .ref s3), (6, .ref s3), (0, .ref h0), (1, .int k), (2, .int i), (3, .int oth), (4, .int j), (5, .int n)]) hx hb dX11_copy_17 hl (by decide) rfl (fun ls hl => ?_)
      refine lv_aload hx hb dX11_copy_19 (lv_at hl 1 rfl) ?_
      refine lv_ifnull hx hb dX11_copy_21 ?_
      refine lv_aload hx hb dX11_copy_24 (lv_at hl 0 rfl) ?_
      refine lv_ifnonnull (tgt := 31) hx hb dX11_copy_26 (by decide) ?_
      refine lv_aload hx hb dX11_copy_31 (lv_at hl 1 rfl) ?_
      refine va_get (D := g.1) (ci := 6) (v := .int 0) (C := RX6) (T := TX6) (N := 4) hx hb hts hi_X11_copy_X6 hown hK hP 3 rfl rfl 1 (by decide) (hts (.fieldLink RX11 277 "OilPush$Sheet" "has" "Z") (by decide +kernel)) (fun _ h => h) rfl dX11_copy_33 ?_
      refine lv_if_eq (tgt := 47) hx hb dX11_copy_36 (by decide) (fun _ => ?_) (fun cc0 => absurd cc0 (by decide))
      refine lv_aload_n hx hb dX11_copy_47 rfl (lv_at hl 2 rfl) ?_
      refine lv_iconst (v := 1) hx hb dX11_copy_48 (by decide) ?_
      refine callIV (As := [.int 1]) (rest := []) (wr := [(s0, .inr (6, [.ref t0, .int 0, .int 0, .int 0])), (s1, .inr (6, [.ref t1, .int 0, .int 0, .int 0])), (s2, .inr (6, [.ref t2, .int 0, .int 0, .int 0])), (s3, .inr (6, [.ref t3, .int 0, .int 0, .int 0])), (a9, .inl (g.2 4, 4, .inr (.inr (.inr (.inr (va_up (va_up (va_up (va_up (fun _ => none) 0 (some s0)) 1 (some s1)) 2 (some s2)) 3 (some s3)))))))]) (Cn := RX11) C (c_faulted l g h0 a0 a1 a2 a3 a4 a5 a6 a7 a8 a9 a10 0 1) 1 gX11_copy_X11_faulted rfl (by decide +kernel) ⟨(Nat.le_of_ble_eq_true rfl), (Nat.le_of_ble_eq_true rfl)⟩ [4] [0, 1, 2, 3, 5] hP hD hA hS rfl rfl rfl rfl (by decide) (k := 4) (ci := 11) rfl rfl rfl rfl hl.1 rfl (Nat.le_of_ble_eq_true rfl) dX11_copy_49 ⟨(Nat.le_of_ble_eq_true rfl), (Nat.le_of_ble_eq_true rfl)⟩ (fun r _u H locs hw hP hD hS => ?_)
      have hP : va_P g.1 vwCl [(s0, .inr (6, [.ref t0, .int 0, .int 0, .int 0])), (s1, .inr (6, [.ref t1, .int 0, .int 0, .int 0])), (s2, .inr (6, [.ref t2, .int 0, .int 0, .int 0])), (s3, .inr (6, [.ref t3, .int 0, .int 0, .int 0])), (a9, .inl (g.2 4, 4, .inr (.inr (.inr (.inr (va_up (va_up (va_up (va_up (fun _ => none) 0 (some s0)) 1 (some s1)) 2 (some s2)) 3 (some s3)))))))] H := hP
      have hD : va_D A [(s0, .inr (6, [.ref t0, .int 0, .int 0, .int 0])), (s1, .inr (6, [.ref t1, .int 0, .int 0, .int 0])), (s2, .inr (6, [.ref t2, .int 0, .int 0, .int 0])), (s3, .inr (6, [.ref t3, .int 0, .int 0, .int 0])), (a9, .inl (g.2 4, 4, .inr (.inr (.inr (.inr (va_up (va_up (va_up (va_up (fun _ => none) 0 (some s0)) 1 (some s1)) 2 (some s2)) 3 (some s3)))))))] := hD
      subst hw
      exact retI C hS () (by unfold r_x_copy; rw [if_neg b1, if_neg b2, if_neg b19, if_neg b20]) (hP.pick [] rfl) (hD.sub [] rfl rfl) (Nat.le_of_ble_eq_true rfl) (Nat.le_of_ble_eq_true rfl) dX11_copy_52
set_option maxRecDepth 100000 in
set_option maxHeartbeats 4000000 in
theorem c_fill (l : Launch) (g : Gt) (t0 : Nat)  : Ctr l g yJ7_fill_53178 wsJ7_fill_53178 ({ frames := 0, cells := 0, slots := 0, locals := 0 } : Room) [.ref t0, .int 0] [(t0, .inl (g.2 0, 20, .inl z0))] (fun A => QV g A (fun _ : Unit => () = ()) (fun _u : Unit => [(t0, .inl (g.2 0, 20, .inl z0))])) := by
  refine Ctr.of (cc := cJ7_fill_53178) (maxL := 4) (ret := none) (by decide) rfl (Nat.le_of_ble_eq_true rfl) ?_
  intro p e s m below meth c A ls H C hP hD hA hS hl
  obtain ⟨hx, hb, hr, hts, hown, hlocks, hml, hin, hKN⟩ := id C
  have hK := hKN.1
  have hN := hKN.2
  have F : CallFix p m c cJ7_fill_53178 4 s _ wsJ7_fill_53178 yJ7_fill_53178.cls := ⟨hx, hb, hml, hown, hts⟩
  have hl : lv_has ls 4 [(0, .ref t0), (1, .int 0)] := hl
  refine lv_iconst (v := 0) hx hb dJ7_fill_53178_0 (by decide) ?_
  refine lv_istore_n (lv' := [(2, .int 0), (0, .ref t0), (1, .int 0)]) hx hb dJ7_fill_53178_1 rfl hl (by decide) rfl (fun ls hl => ?_)
  refine lv_aload_n hx hb dJ7_fill_53178_2 rfl (lv_at hl 1 rfl) ?_
  refine va_alen (v := 20) hx hb hK hP 0 0 rfl rfl rfl dJ7_fill_53178_3 ?_
  refine lv_istore_n (lv' := [(3, .int 20), (2, .int 0), (0, .ref t0), (1, .int 0)]) hx hb dJ7_fill_53178_4 rfl hl (by decide) rfl (fun ls hl => ?_)
  refine lv_iload_n hx hb dJ7_fill_53178_5 rfl (lv_at hl 1 rfl) ?_
  refine lv_iload_n hx hb dJ7_fill_53178_6 rfl (lv_at hl 0 rfl) ?_
  refine lv_icmp_ge (tgt := 20) hx hb dJ7_fill_53178_7 (by decide) (fun cc0 => absurd cc0 (by decide)) (fun _ => ?_)
  refine lv_aload_n hx hb dJ7_fill_53178_10 rfl (lv_at hl 2 rfl) ?_
  refine lv_iload_n hx hb dJ7_fill_53178_11 rfl (lv_at hl 1 rfl) ?_
  refine lv_iload_n hx hb dJ7_fill_53178_12 rfl (lv_at hl 3 rfl) ?_
  refine va_iast hx hb hK hP hD hS 0 0 rfl rfl (by unfold vp_in; decide +kernel) dJ7_fill_53178_13 (fun H locs hP hD hS => ?_)
  have hP : va_P g.1 vwCl [(t0, .inl (g.2 0, 20, .inl z0))] H := by have h9 := hP; rw [upd_zero] at h9; exact h9
  have hD : va_D A [(t0, .inl (g.2 0, 20, .inl z0))] := by have h9 := hD; rw [upd_zero] at h9; exact h9
  refine lv_iinc (v := 1) (lv' := [(2, .int 1), (3, .int 20), (0, .ref t0), (1, .int 0)]) hx hb dJ7_fill_53178_14 hl (k := 1) rfl (by decide) (by decide) rfl (fun ls hl => ?_)
  refine lv_goto (tgt := 5) hx hb dJ7_fill_53178_17 (by decide) ?_
  refine lv_iload_n hx hb dJ7_fill_53178_5 rfl (lv_at hl 0 rfl) ?_
  refine lv_iload_n hx hb dJ7_fill_53178_6 rfl (lv_at hl 1 rfl) ?_
  refine lv_icmp_ge (tgt := 20) hx hb dJ7_fill_53178_7 (by decide) (fun cc0 => absurd cc0 (by decide)) (fun _ => ?_)
  refine lv_aload_n hx hb dJ7_fill_53178_10 rfl (lv_at hl 2 rfl) ?_
  refine lv_iload_n hx hb dJ7_fill_53178_11 rfl (lv_at hl 0 rfl) ?_
  refine lv_iload_n hx hb dJ7_fill_53178_12 rfl (lv_at hl 3 rfl) ?_
  refine va_iast hx hb hK hP hD hS 0 0 rfl rfl (by unfold vp_in; decide +kernel) dJ7_fill_53178_13 (fun H locs hP hD hS => ?_)
  have hP : va_P g.1 vwCl [(t0, .inl (g.2 0, 20, .inl z0))] H := by have h9 := hP; rw [upd_zero] at h9; exact h9
  have hD : va_D A [(t0, .inl (g.2 0, 20, .inl z0))] := by have h9 := hD; rw [upd_zero] at h9; exact h9
  refine lv_iinc (v := 2) (lv' := [(2, .int 2), (3, .int 20), (0, .ref t0), (1, .int 0)]) hx hb dJ7_fill_53178_14 hl (k := 0) rfl (by decide) (by decide) rfl (fun ls hl => ?_)
  refine lv_goto (tgt := 5) hx hb dJ7_fill_53178_17 (by decide) ?_
  refine lv_iload_n hx hb dJ7_fill_53178_5 rfl (lv_at hl 0 rfl) ?_
  refine lv_iload_n hx hb dJ7_fill_53178_6 rfl (lv_at hl 1 rfl) ?_
  refine lv_icmp_ge (tgt := 20) hx hb dJ7_fill_53178_7 (by decide) (fun cc0 => absurd cc0 (by decide)) (fun _ => ?_)
  refine lv_aload_n hx hb dJ7_fill_53178_10 rfl (lv_at hl 2 rfl) ?_
  refine lv_iload_n hx hb dJ7_fill_53178_11 rfl (lv_at hl 0 rfl) ?_
  refine lv_iload_n hx hb dJ7_fill_53178_12 rfl (lv_at hl 3 rfl) ?_
  refine va_iast hx hb hK hP hD hS 0 0 rfl rfl (by unfold vp_in; decide +kernel) dJ7_fill_53178_13 (fun H locs hP hD hS => ?_)
  have hP : va_P g.1 vwCl [(t0, .inl (g.2 0, 20, .inl z0))] H := by have h9 := hP; rw [upd_zero] at h9; exact h9
  have hD : va_D A [(t0, .inl (g.2 0, 20, .inl z0))] := by have h9 := hD; rw [upd_zero] at h9; exact h9
  refine lv_iinc (v := 3) (lv' := [(2, .int 3), (3, .int 20), (0, .ref t0), (1, .int 0)]) hx hb dJ7_fill_53178_14 hl (k := 0) rfl (by decide) (by decide) rfl (fun ls hl => ?_)
  refine lv_goto (tgt := 5) hx hb dJ7_fill_53178_17 (by decide) ?_
  refine lv_iload_n hx hb dJ7_fill_53178_5 rfl (lv_at hl 0 rfl) ?_
  refine lv_iload_n hx hb dJ7_fill_53178_6 rfl (lv_at hl 1 rfl) ?_
  refine lv_icmp_ge (tgt := 20) hx hb dJ7_fill_53178_7 (by decide) (fun cc0 => absurd cc0 (by decide)) (fun _ => ?_)
  refine lv_aload_n hx hb dJ7_fill_53178_10 rfl (lv_at hl 2 rfl) ?_
  refine lv_iload_n hx hb dJ7_fill_53178_11 rfl (lv_at hl 0 rfl) ?_
  refine lv_iload_n hx hb dJ7_fill_53178_12 rfl (lv_at hl 3 rfl) ?_
  refine va_iast hx hb hK hP hD hS 0 0 rfl rfl (by unfold vp_in; decide +kernel) dJ7_fill_53178_13 (fun H locs hP hD hS => ?_)
  have hP : va_P g.1 vwCl [(t0, .inl (g.2 0, 20, .inl z0))] H := by have h9 := hP; rw [upd_zero] at h9; exact h9
  have hD : va_D A [(t0, .inl (g.2 0, 20, .inl z0))] := by have h9 := hD; rw [upd_zero] at h9; exact h9
  refine lv_iinc (v := 4) (lv' := [(2, .int 4), (3, .int 20), (0, .ref t0), (1, .int 0)]) hx hb dJ7_fill_53178_14 hl (k := 0) rfl (by decide) (by decide) rfl (fun ls hl => ?_)
  refine lv_goto (tgt := 5) hx hb dJ7_fill_53178_17 (by decide) ?_
  refine lv_iload_n hx hb dJ7_fill_53178_5 rfl (lv_at hl 0 rfl) ?_
  refine lv_iload_n hx hb dJ7_fill_53178_6 rfl (lv_at hl 1 rfl) ?_
  refine lv_icmp_ge (tgt := 20) hx hb dJ7_fill_53178_7 (by decide) (fun cc0 => absurd cc0 (by decide)) (fun _ => ?_)
  refine lv_aload_n hx hb dJ7_fill_53178_10 rfl (lv_at hl 2 rfl) ?_
  refine lv_iload_n hx hb dJ7_fill_53178_11 rfl (lv_at hl 0 rfl) ?_
  refine lv_iload_n hx hb dJ7_fill_53178_12 rfl (lv_at hl 3 rfl) ?_
  refine va_iast hx hb hK hP hD hS 0 0 rfl rfl (by unfold vp_in; decide +kernel) dJ7_fill_53178_13 (fun H locs hP hD hS => ?_)
  have hP : va_P g.1 vwCl [(t0, .inl (g.2 0, 20, .inl z0))] H := by have h9 := hP; rw [upd_zero] at h9; exact h9
  have hD : va_D A [(t0, .inl (g.2 0, 20, .inl z0))] := by have h9 := hD; rw [upd_zero] at h9; exact h9
  refine lv_iinc (v := 5) (lv' := [(2, .int 5), (3, .int 20), (0, .ref t0), (1, .int 0)]) hx hb dJ7_fill_53178_14 hl (k := 0) rfl (by decide) (by decide) rfl (fun ls hl => ?_)
  refine lv_goto (tgt := 5) hx hb dJ7_fill_53178_17 (by decide) ?_
  refine lv_iload_n hx hb dJ7_fill_53178_5 rfl (lv_at hl 0 rfl) ?_
  refine lv_iload_n hx hb dJ7_fill_53178_6 rfl (lv_at hl 1 rfl) ?_
  refine lv_icmp_ge (tgt := 20) hx hb dJ7_fill_53178_7 (by decide) (fun cc0 => absurd cc0 (by decide)) (fun _ => ?_)
  refine lv_aload_n hx hb dJ7_fill_53178_10 rfl (lv_at hl 2 rfl) ?_
  refine lv_iload_n hx hb dJ7_fill_53178_11 rfl (lv_at hl 0 rfl) ?_
  refine lv_iload_n hx hb dJ7_fill_53178_12 rfl (lv_at hl 3 rfl) ?_
  refine va_iast hx hb hK hP hD hS 0 0 rfl rfl (by unfold vp_in; decide +kernel) dJ7_fill_53178_13 (fun H locs hP hD hS => ?_)
  have hP : va_P g.1 vwCl [(t0, .inl (g.2 0, 20, .inl z0))] H := by have h9 := hP; rw [upd_zero] at h9; exact h9
  have hD : va_D A [(t0, .inl (g.2 0, 20, .inl z0))] := by have h9 := hD; rw [upd_zero] at h9; exact h9
  refine lv_iinc (v := 6) (lv' := [(2, .int 6), (3, .int 20), (0, .ref t0), (1, .int 0)]) hx hb dJ7_fill_53178_14 hl (k := 0) rfl (by decide) (by decide) rfl (fun ls hl => ?_)
  refine lv_goto (tgt := 5) hx hb dJ7_fill_53178_17 (by decide) ?_
  refine lv_iload_n hx hb dJ7_fill_53178_5 rfl (lv_at hl 0 rfl) ?_
  refine lv_iload_n hx hb dJ7_fill_53178_6 rfl (lv_at hl 1 rfl) ?_
  refine lv_icmp_ge (tgt := 20) hx hb dJ7_fill_53178_7 (by decide) (fun cc0 => absurd cc0 (by decide)) (fun _ => ?_)
  refine lv_aload_n hx hb dJ7_fill_53178_10 rfl (lv_at hl 2 rfl) ?_
  refine lv_iload_n hx hb dJ7_fill_53178_11 rfl (lv_at hl 0 rfl) ?_
  refine lv_iload_n hx hb dJ7_fill_53178_12 rfl (lv_at hl 3 rfl) ?_
  refine va_iast hx hb hK hP hD hS 0 0 rfl rfl (by unfold vp_in; decide +kernel) dJ7_fill_53178_13 (fun H locs hP hD hS => ?_)
  have hP : va_P g.1 vwCl [(t0, .inl (g.2 0, 20, .inl z0))] H := by have h9 := hP; rw [upd_zero] at h9; exact h9
  have hD : va_D A [(t0, .inl (g.2 0, 20, .inl z0))] := by have h9 := hD; rw [upd_zero] at h9; exact h9
  refine lv_iinc (v := 7) (lv' := [(2, .int 7), (3, .int 20), (0, .ref t0), (1, .int 0)]) hx hb dJ7_fill_53178_14 hl (k := 0) rfl (by decide) (by decide) rfl (fun ls hl => ?_)
  refine lv_goto (tgt := 5) hx hb dJ7_fill_53178_17 (by decide) ?_
  refine lv_iload_n hx hb dJ7_fill_53178_5 rfl (lv_at hl 0 rfl) ?_
  refine lv_iload_n hx hb dJ7_fill_53178_6 rfl (lv_at hl 1 rfl) ?_
  refine lv_icmp_ge (tgt := 20) hx hb dJ7_fill_53178_7 (by decide) (fun cc0 => absurd cc0 (by decide)) (fun _ => ?_)
  refine lv_aload_n hx hb dJ7_fill_53178_10 rfl (lv_at hl 2 rfl) ?_
  refine lv_iload_n hx hb dJ7_fill_53178_11 rfl (lv_at hl 0 rfl) ?_
  refine lv_iload_n hx hb dJ7_fill_53178_12 rfl (lv_at hl 3 rfl) ?_
  refine va_iast hx hb hK hP hD hS 0 0 rfl rfl (by unfold vp_in; decide +kernel) dJ7_fill_53178_13 (fun H locs hP hD hS => ?_)
  have hP : va_P g.1 vwCl [(t0, .inl (g.2 0, 20, .inl z0))] H := by have h9 := hP; rw [upd_zero] at h9; exact h9
  have hD : va_D A [(t0, .inl (g.2 0, 20, .inl z0))] := by have h9 := hD; rw [upd_zero] at h9; exact h9
  refine lv_iinc (v := 8) (lv' := [(2, .int 8), (3, .int 20), (0, .ref t0), (1, .int 0)]) hx hb dJ7_fill_53178_14 hl (k := 0) rfl (by decide) (by decide) rfl (fun ls hl => ?_)
  refine lv_goto (tgt := 5) hx hb dJ7_fill_53178_17 (by decide) ?_
  refine lv_iload_n hx hb dJ7_fill_53178_5 rfl (lv_at hl 0 rfl) ?_
  refine lv_iload_n hx hb dJ7_fill_53178_6 rfl (lv_at hl 1 rfl) ?_
  refine lv_icmp_ge (tgt := 20) hx hb dJ7_fill_53178_7 (by decide) (fun cc0 => absurd cc0 (by decide)) (fun _ => ?_)
  refine lv_aload_n hx hb dJ7_fill_53178_10 rfl (lv_at hl 2 rfl) ?_
  refine lv_iload_n hx hb dJ7_fill_53178_11 rfl (lv_at hl 0 rfl) ?_
  refine lv_iload_n hx hb dJ7_fill_53178_12 rfl (lv_at hl 3 rfl) ?_
  refine va_iast hx hb hK hP hD hS 0 0 rfl rfl (by unfold vp_in; decide +kernel) dJ7_fill_53178_13 (fun H locs hP hD hS => ?_)
  have hP : va_P g.1 vwCl [(t0, .inl (g.2 0, 20, .inl z0))] H := by have h9 := hP; rw [upd_zero] at h9; exact h9
  have hD : va_D A [(t0, .inl (g.2 0, 20, .inl z0))] := by have h9 := hD; rw [upd_zero] at h9; exact h9
  refine lv_iinc (v := 9) (lv' := [(2, .int 9), (3, .int 20), (0, .ref t0), (1, .int 0)]) hx hb dJ7_fill_53178_14 hl (k := 0) rfl (by decide) (by decide) rfl (fun ls hl => ?_)
  refine lv_goto (tgt := 5) hx hb dJ7_fill_53178_17 (by decide) ?_
  refine lv_iload_n hx hb dJ7_fill_53178_5 rfl (lv_at hl 0 rfl) ?_
  refine lv_iload_n hx hb dJ7_fill_53178_6 rfl (lv_at hl 1 rfl) ?_
  refine lv_icmp_ge (tgt := 20) hx hb dJ7_fill_53178_7 (by decide) (fun cc0 => absurd cc0 (by decide)) (fun _ => ?_)
  refine lv_aload_n hx hb dJ7_fill_53178_10 rfl (lv_at hl 2 rfl) ?_
  refine lv_iload_n hx hb dJ7_fill_53178_11 rfl (lv_at hl 0 rfl) ?_
  refine lv_iload_n hx hb dJ7_fill_53178_12 rfl (lv_at hl 3 rfl) ?_
  refine va_iast hx hb hK hP hD hS 0 0 rfl rfl (by unfold vp_in; decide +kernel) dJ7_fill_53178_13 (fun H locs hP hD hS => ?_)
  have hP : va_P g.1 vwCl [(t0, .inl (g.2 0, 20, .inl z0))] H := by have h9 := hP; rw [upd_zero] at h9; exact h9
  have hD : va_D A [(t0, .inl (g.2 0, 20, .inl z0))] := by have h9 := hD; rw [upd_zero] at h9; exact h9
  refine lv_iinc (v := 10) (lv' := [(2, .int 10), (3, .int 20), (0, .ref t0), (1, .int 0)]) hx hb dJ7_fill_53178_14 hl (k := 0) rfl (by decide) (by decide) rfl (fun ls hl => ?_)
  refine lv_goto (tgt := 5) hx hb dJ7_fill_53178_17 (by decide) ?_
  refine lv_iload_n hx hb dJ7_fill_53178_5 rfl (lv_at hl 0 rfl) ?_
  refine lv_iload_n hx hb dJ7_fill_53178_6 rfl (lv_at hl 1 rfl) ?_
  refine lv_icmp_ge (tgt := 20) hx hb dJ7_fill_53178_7 (by decide) (fun cc0 => absurd cc0 (by decide)) (fun _ => ?_)
  refine lv_aload_n hx hb dJ7_fill_53178_10 rfl (lv_at hl 2 rfl) ?_
  refine lv_iload_n hx hb dJ7_fill_53178_11 rfl (lv_at hl 0 rfl) ?_
  refine lv_iload_n hx hb dJ7_fill_53178_12 rfl (lv_at hl 3 rfl) ?_
  refine va_iast hx hb hK hP hD hS 0 0 rfl rfl (by unfold vp_in; decide +kernel) dJ7_fill_53178_13 (fun H locs hP hD hS => ?_)
  have hP : va_P g.1 vwCl [(t0, .inl (g.2 0, 20, .inl z0))] H := by have h9 := hP; rw [upd_zero] at h9; exact h9
  have hD : va_D A [(t0, .inl (g.2 0, 20, .inl z0))] := by have h9 := hD; rw [upd_zero] at h9; exact h9
  refine lv_iinc (v := 11) (lv' := [(2, .int 11), (3, .int 20), (0, .ref t0), (1, .int 0)]) hx hb dJ7_fill_53178_14 hl (k := 0) rfl (by decide) (by decide) rfl (fun ls hl => ?_)
  refine lv_goto (tgt := 5) hx hb dJ7_fill_53178_17 (by decide) ?_
  refine lv_iload_n hx hb dJ7_fill_53178_5 rfl (lv_at hl 0 rfl) ?_
  refine lv_iload_n hx hb dJ7_fill_53178_6 rfl (lv_at hl 1 rfl) ?_
  refine lv_icmp_ge (tgt := 20) hx hb dJ7_fill_53178_7 (by decide) (fun cc0 => absurd cc0 (by decide)) (fun _ => ?_)
  refine lv_aload_n hx hb dJ7_fill_53178_10 rfl (lv_at hl 2 rfl) ?_
  refine lv_iload_n hx hb dJ7_fill_53178_11 rfl (lv_at hl 0 rfl) ?_
  refine lv_iload_n hx hb dJ7_fill_53178_12 rfl (lv_at hl 3 rfl) ?_
  refine va_iast hx hb hK hP hD hS 0 0 rfl rfl (by unfold vp_in; decide +kernel) dJ7_fill_53178_13 (fun H locs hP hD hS => ?_)
  have hP : va_P g.1 vwCl [(t0, .inl (g.2 0, 20, .inl z0))] H := by have h9 := hP; rw [upd_zero] at h9; exact h9
  have hD : va_D A [(t0, .inl (g.2 0, 20, .inl z0))] := by have h9 := hD; rw [upd_zero] at h9; exact h9
  refine lv_iinc (v := 12) (lv' := [(2, .int 12), (3, .int 20), (0, .ref t0), (1, .int 0)]) hx hb dJ7_fill_53178_14 hl (k := 0) rfl (by decide) (by decide) rfl (fun ls hl => ?_)
  refine lv_goto (tgt := 5) hx hb dJ7_fill_53178_17 (by decide) ?_
  refine lv_iload_n hx hb dJ7_fill_53178_5 rfl (lv_at hl 0 rfl) ?_
  refine lv_iload_n hx hb dJ7_fill_53178_6 rfl (lv_at hl 1 rfl) ?_
  refine lv_icmp_ge (tgt := 20) hx hb dJ7_fill_53178_7 (by decide) (fun cc0 => absurd cc0 (by decide)) (fun _ => ?_)
  refine lv_aload_n hx hb dJ7_fill_53178_10 rfl (lv_at hl 2 rfl) ?_
  refine lv_iload_n hx hb dJ7_fill_53178_11 rfl (lv_at hl 0 rfl) ?_
  refine lv_iload_n hx hb dJ7_fill_53178_12 rfl (lv_at hl 3 rfl) ?_
  refine va_iast hx hb hK hP hD hS 0 0 rfl rfl (by unfold vp_in; decide +kernel) dJ7_fill_53178_13 (fun H locs hP hD hS => ?_)
  have hP : va_P g.1 vwCl [(t0, .inl (g.2 0, 20, .inl z0))] H := by have h9 := hP; rw [upd_zero] at h9; exact h9
  have hD : va_D A [(t0, .inl (g.2 0, 20, .inl z0))] := by have h9 := hD; rw [upd_zero] at h9; exact h9
  refine lv_iinc (v := 13) (lv' := [(2, .int 13), (3, .int 20), (0, .ref t0), (1, .int 0)]) hx hb dJ7_fill_53178_14 hl (k := 0) rfl (by decide) (by decide) rfl (fun ls hl => ?_)
  refine lv_goto (tgt := 5) hx hb dJ7_fill_53178_17 (by decide) ?_
  refine lv_iload_n hx hb dJ7_fill_53178_5 rfl (lv_at hl 0 rfl) ?_
  refine lv_iload_n hx hb dJ7_fill_53178_6 rfl (lv_at hl 1 rfl) ?_
  refine lv_icmp_ge (tgt := 20) hx hb dJ7_fill_53178_7 (by decide) (fun cc0 => absurd cc0 (by decide)) (fun _ => ?_)
  refine lv_aload_n hx hb dJ7_fill_53178_10 rfl (lv_at hl 2 rfl) ?_
  refine lv_iload_n hx hb dJ7_fill_53178_11 rfl (lv_at hl 0 rfl) ?_
  refine lv_iload_n hx hb dJ7_fill_53178_12 rfl (lv_at hl 3 rfl) ?_
  refine va_iast hx hb hK hP hD hS 0 0 rfl rfl (by unfold vp_in; decide +kernel) dJ7_fill_53178_13 (fun H locs hP hD hS => ?_)
  have hP : va_P g.1 vwCl [(t0, .inl (g.2 0, 20, .inl z0))] H := by have h9 := hP; rw [upd_zero] at h9; exact h9
  have hD : va_D A [(t0, .inl (g.2 0, 20, .inl z0))] := by have h9 := hD; rw [upd_zero] at h9; exact h9
  refine lv_iinc (v := 14) (lv' := [(2, .int 14), (3, .int 20), (0, .ref t0), (1, .int 0)]) hx hb dJ7_fill_53178_14 hl (k := 0) rfl (by decide) (by decide) rfl (fun ls hl => ?_)
  refine lv_goto (tgt := 5) hx hb dJ7_fill_53178_17 (by decide) ?_
  refine lv_iload_n hx hb dJ7_fill_53178_5 rfl (lv_at hl 0 rfl) ?_
  refine lv_iload_n hx hb dJ7_fill_53178_6 rfl (lv_at hl 1 rfl) ?_
  refine lv_icmp_ge (tgt := 20) hx hb dJ7_fill_53178_7 (by decide) (fun cc0 => absurd cc0 (by decide)) (fun _ => ?_)
  refine lv_aload_n hx hb dJ7_fill_53178_10 rfl (lv_at hl 2 rfl) ?_
  refine lv_iload_n hx hb dJ7_fill_53178_11 rfl (lv_at hl 0 rfl) ?_
  refine lv_iload_n hx hb dJ7_fill_53178_12 rfl (lv_at hl 3 rfl) ?_
  refine va_iast hx hb hK hP hD hS 0 0 rfl rfl (by unfold vp_in; decide +kernel) dJ7_fill_53178_13 (fun H locs hP hD hS => ?_)
  have hP : va_P g.1 vwCl [(t0, .inl (g.2 0, 20, .inl z0))] H := by have h9 := hP; rw [upd_zero] at h9; exact h9
  have hD : va_D A [(t0, .inl (g.2 0, 20, .inl z0))] := by have h9 := hD; rw [upd_zero] at h9; exact h9
  refine lv_iinc (v := 15) (lv' := [(2, .int 15), (3, .int 20), (0, .ref t0), (1, .int 0)]) hx hb dJ7_fill_53178_14 hl (k := 0) rfl (by decide) (by decide) rfl (fun ls hl => ?_)
  refine lv_goto (tgt := 5) hx hb dJ7_fill_53178_17 (by decide) ?_
  refine lv_iload_n hx hb dJ7_fill_53178_5 rfl (lv_at hl 0 rfl) ?_
  refine lv_iload_n hx hb dJ7_fill_53178_6 rfl (lv_at hl 1 rfl) ?_
  refine lv_icmp_ge (tgt := 20) hx hb dJ7_fill_53178_7 (by decide) (fun cc0 => absurd cc0 (by decide)) (fun _ => ?_)
  refine lv_aload_n hx hb dJ7_fill_53178_10 rfl (lv_at hl 2 rfl) ?_
  refine lv_iload_n hx hb dJ7_fill_53178_11 rfl (lv_at hl 0 rfl) ?_
  refine lv_iload_n hx hb dJ7_fill_53178_12 rfl (lv_at hl 3 rfl) ?_
  refine va_iast hx hb hK hP hD hS 0 0 rfl rfl (by unfold vp_in; decide +kernel) dJ7_fill_53178_13 (fun H locs hP hD hS => ?_)
  have hP : va_P g.1 vwCl [(t0, .inl (g.2 0, 20, .inl z0))] H := by have h9 := hP; rw [upd_zero] at h9; exact h9
  have hD : va_D A [(t0, .inl (g.2 0, 20, .inl z0))] := by have h9 := hD; rw [upd_zero] at h9; exact h9
  refine lv_iinc (v := 16) (lv' := [(2, .int 16), (3, .int 20), (0, .ref t0), (1, .int 0)]) hx hb dJ7_fill_53178_14 hl (k := 0) rfl (by decide) (by decide) rfl (fun ls hl => ?_)
  refine lv_goto (tgt := 5) hx hb dJ7_fill_53178_17 (by decide) ?_
  refine lv_iload_n hx hb dJ7_fill_53178_5 rfl (lv_at hl 0 rfl) ?_
  refine lv_iload_n hx hb dJ7_fill_53178_6 rfl (lv_at hl 1 rfl) ?_
  refine lv_icmp_ge (tgt := 20) hx hb dJ7_fill_53178_7 (by decide) (fun cc0 => absurd cc0 (by decide)) (fun _ => ?_)
  refine lv_aload_n hx hb dJ7_fill_53178_10 rfl (lv_at hl 2 rfl) ?_
  refine lv_iload_n hx hb dJ7_fill_53178_11 rfl (lv_at hl 0 rfl) ?_
  refine lv_iload_n hx hb dJ7_fill_53178_12 rfl (lv_at hl 3 rfl) ?_
  refine va_iast hx hb hK hP hD hS 0 0 rfl rfl (by unfold vp_in; decide +kernel) dJ7_fill_53178_13 (fun H locs hP hD hS => ?_)
  have hP : va_P g.1 vwCl [(t0, .inl (g.2 0, 20, .inl z0))] H := by have h9 := hP; rw [upd_zero] at h9; exact h9
  have hD : va_D A [(t0, .inl (g.2 0, 20, .inl z0))] := by have h9 := hD; rw [upd_zero] at h9; exact h9
  refine lv_iinc (v := 17) (lv' := [(2, .int 17), (3, .int 20), (0, .ref t0), (1, .int 0)]) hx hb dJ7_fill_53178_14 hl (k := 0) rfl (by decide) (by decide) rfl (fun ls hl => ?_)
  refine lv_goto (tgt := 5) hx hb dJ7_fill_53178_17 (by decide) ?_
  refine lv_iload_n hx hb dJ7_fill_53178_5 rfl (lv_at hl 0 rfl) ?_
  refine lv_iload_n hx hb dJ7_fill_53178_6 rfl (lv_at hl 1 rfl) ?_
  refine lv_icmp_ge (tgt := 20) hx hb dJ7_fill_53178_7 (by decide) (fun cc0 => absurd cc0 (by decide)) (fun _ => ?_)
  refine lv_aload_n hx hb dJ7_fill_53178_10 rfl (lv_at hl 2 rfl) ?_
  refine lv_iload_n hx hb dJ7_fill_53178_11 rfl (lv_at hl 0 rfl) ?_
  refine lv_iload_n hx hb dJ7_fill_53178_12 rfl (lv_at hl 3 rfl) ?_
  refine va_iast hx hb hK hP hD hS 0 0 rfl rfl (by unfold vp_in; decide +kernel) dJ7_fill_53178_13 (fun H locs hP hD hS => ?_)
  have hP : va_P g.1 vwCl [(t0, .inl (g.2 0, 20, .inl z0))] H := by have h9 := hP; rw [upd_zero] at h9; exact h9
  have hD : va_D A [(t0, .inl (g.2 0, 20, .inl z0))] := by have h9 := hD; rw [upd_zero] at h9; exact h9
  refine lv_iinc (v := 18) (lv' := [(2, .int 18), (3, .int 20), (0, .ref t0), (1, .int 0)]) hx hb dJ7_fill_53178_14 hl (k := 0) rfl (by decide) (by decide) rfl (fun ls hl => ?_)
  refine lv_goto (tgt := 5) hx hb dJ7_fill_53178_17 (by decide) ?_
  refine lv_iload_n hx hb dJ7_fill_53178_5 rfl (lv_at hl 0 rfl) ?_
  refine lv_iload_n hx hb dJ7_fill_53178_6 rfl (lv_at hl 1 rfl) ?_
  refine lv_icmp_ge (tgt := 20) hx hb dJ7_fill_53178_7 (by decide) (fun cc0 => absurd cc0 (by decide)) (fun _ => ?_)
  refine lv_aload_n hx hb dJ7_fill_53178_10 rfl (lv_at hl 2 rfl) ?_
  refine lv_iload_n hx hb dJ7_fill_53178_11 rfl (lv_at hl 0 rfl) ?_
  refine lv_iload_n hx hb dJ7_fill_53178_12 rfl (lv_at hl 3 rfl) ?_
  refine va_iast hx hb hK hP hD hS 0 0 rfl rfl (by unfold vp_in; decide +kernel) dJ7_fill_53178_13 (fun H locs hP hD hS => ?_)
  have hP : va_P g.1 vwCl [(t0, .inl (g.2 0, 20, .inl z0))] H := by have h9 := hP; rw [upd_zero] at h9; exact h9
  have hD : va_D A [(t0, .inl (g.2 0, 20, .inl z0))] := by have h9 := hD; rw [upd_zero] at h9; exact h9
  refine lv_iinc (v := 19) (lv' := [(2, .int 19), (3, .int 20), (0, .ref t0), (1, .int 0)]) hx hb dJ7_fill_53178_14 hl (k := 0) rfl (by decide) (by decide) rfl (fun ls hl => ?_)
  refine lv_goto (tgt := 5) hx hb dJ7_fill_53178_17 (by decide) ?_
  refine lv_iload_n hx hb dJ7_fill_53178_5 rfl (lv_at hl 0 rfl) ?_
  refine lv_iload_n hx hb dJ7_fill_53178_6 rfl (lv_at hl 1 rfl) ?_
  refine lv_icmp_ge (tgt := 20) hx hb dJ7_fill_53178_7 (by decide) (fun cc0 => absurd cc0 (by decide)) (fun _ => ?_)
  refine lv_aload_n hx hb dJ7_fill_53178_10 rfl (lv_at hl 2 rfl) ?_
  refine lv_iload_n hx hb dJ7_fill_53178_11 rfl (lv_at hl 0 rfl) ?_
  refine lv_iload_n hx hb dJ7_fill_53178_12 rfl (lv_at hl 3 rfl) ?_
  refine va_iast hx hb hK hP hD hS 0 0 rfl rfl (by unfold vp_in; decide +kernel) dJ7_fill_53178_13 (fun H locs hP hD hS => ?_)
  have hP : va_P g.1 vwCl [(t0, .inl (g.2 0, 20, .inl z0))] H := by have h9 := hP; rw [upd_zero] at h9; exact h9
  have hD : va_D A [(t0, .inl (g.2 0, 20, .inl z0))] := by have h9 := hD; rw [upd_zero] at h9; exact h9
  refine lv_iinc (v := 20) (lv' := [(2, .int 20), (3, .int 20), (0, .ref t0), (1, .int 0)]) hx hb dJ7_fill_53178_14 hl (k := 0) rfl (by decide) (by decide) rfl (fun ls hl => ?_)
  refine lv_goto (tgt := 5) hx hb dJ7_fill_53178_17 (by decide) ?_
  refine lv_iload_n hx hb dJ7_fill_53178_5 rfl (lv_at hl 0 rfl) ?_
  refine lv_iload_n hx hb dJ7_fill_53178_6 rfl (lv_at hl 1 rfl) ?_
  refine lv_icmp_ge (tgt := 20) hx hb dJ7_fill_53178_7 (by decide) (fun _ => ?_) (fun cc0 => absurd cc0 (by decide))
  exact retV C hS () rfl (hP.pick [0] rfl) (hD.sub [0] rfl rfl) (Nat.le_of_ble_eq_true rfl) (Nat.le_of_ble_eq_true rfl) dJ7_fill_53178_20
theorem hi_X6_renew_X6 : ∀ w ∈ wsX60, w ∈ wsX6_renew := fun w h => List.mem_cons_of_mem _ (List.mem_append_right _ h)
set_option maxRecDepth 100000 in
set_option maxHeartbeats 4000000 in
theorem c_renew (l : Launch) (g : Gt) (s0 : Nat) (t0 : Nat) (lane : Int32) (n : Int32)  : Ctr l g yX6_renew wsX6_renew ({ frames := 1, cells := 0, slots := 0, locals := 23 } : Room) [.ref s0, .int lane, .int n] [(s0, .inr (6, [.ref t0, .int 0, .int 0, .int 0])), (t0, .inl (g.2 0, 20, .inl z0))] (fun A => QV g A (fun _ : Unit => () = ()) (fun _u : Unit => [])) := by
  refine Ctr.of (cc := cX6_renew) (maxL := 3) (ret := none) (by decide) rfl (Nat.le_of_ble_eq_true rfl) ?_
  intro p e s m below meth c A ls H C hP hD hA hS hl
  obtain ⟨hx, hb, hr, hts, hown, hlocks, hml, hin, hKN⟩ := id C
  have hK := hKN.1
  have hN := hKN.2
  have F : CallFix p m c cX6_renew 3 s _ wsX6_renew yX6_renew.cls := ⟨hx, hb, hml, hown, hts⟩
  have hl : lv_has ls 3 [(0, .ref s0), (1, .int lane), (2, .int n)] := hl
  refine lv_aload_n hx hb dX6_renew_0 rfl (lv_at hl 0 rfl) ?_
  refine va_get (D := g.1) (ci := 6) (v := .ref t0) (C := RX6) (T := TX6) (N := 4) hx hb hts hi_X6_renew_X6 hown hK hP 0 rfl rfl 0 (by decide) (hts (.fieldLink RX6 9 "OilPush$Sheet" "cells" "[I") (by decide +kernel)) (fun _ h => h) rfl dX6_renew_1 ?_
  refine lv_iconst (v := 0) hx hb dX6_renew_4 (by decide) ?_
  refine callVS (As := [.ref t0, .int 0]) (rest := []) (wr := [(s0, .inr (6, [.ref t0, .int 0, .int 0, .int 0]))]) C (c_fill l g t0) 2 gX6_renew_J7_fill_53178 rfl (by decide +kernel) ⟨(Nat.le_of_ble_eq_true rfl), (Nat.le_of_ble_eq_true rfl)⟩ [1] [0] hP hD hA hS rfl rfl rfl rfl (by decide) rfl hl.1 rfl (Nat.le_of_ble_eq_true rfl) dX6_renew_5 ⟨(Nat.le_of_ble_eq_true rfl), (Nat.le_of_ble_eq_true rfl)⟩ (fun _u H locs hw hP hD hS => ?_)
  have hP : va_P g.1 vwCl [(s0, .inr (6, [.ref t0, .int 0, .int 0, .int 0])), (t0, .inl (g.2 0, 20, .inl z0))] H := hP
  have hD : va_D A [(s0, .inr (6, [.ref t0, .int 0, .int 0, .int 0])), (t0, .inl (g.2 0, 20, .inl z0))] := hD
  refine lv_aload_n hx hb dX6_renew_8 rfl (lv_at hl 0 rfl) ?_
  refine lv_iconst (v := 1) hx hb dX6_renew_9 (by decide) ?_
  refine va_put (D := g.1) (ci := 6) (v := .int 1) (ty := .boolean) (C := RX6) (T := TX6) (N := 4) hx hb hts hi_X6_renew_X6 tyX6 tyX6_ok nmX6 hown hK hP hD hS 0 rfl rfl 1 (by decide) (hts (.fieldLink RX6 21 "OilPush$Sheet" "has" "Z") (by decide +kernel)) (fun _ h => h) rfl (by decide +kernel) rfl rfl (Nat.le_of_ble_eq_true rfl) dX6_renew_10 (fun H locs hP hD hS => ?_)
  have hP : va_P g.1 vwCl [(s0, .inr (6, [.ref t0, .int 1, .int 0, .int 0])), (t0, .inl (g.2 0, 20, .inl z0))] H := hP
  have hD : va_D A [(s0, .inr (6, [.ref t0, .int 1, .int 0, .int 0])), (t0, .inl (g.2 0, 20, .inl z0))] := hD
  refine lv_aload_n hx hb dX6_renew_13 rfl (lv_at hl 0 rfl) ?_
  refine lv_iload_n hx hb dX6_renew_14 rfl (lv_at hl 1 rfl) ?_
  refine va_put (D := g.1) (ci := 6) (v := .int lane) (ty := .int) (C := RX6) (T := TX6) (N := 4) hx hb hts hi_X6_renew_X6 tyX6 tyX6_ok nmX6 hown hK hP hD hS 0 rfl rfl 2 (by decide) (hts (.fieldLink RX6 25 "OilPush$Sheet" "lane" "I") (by decide +kernel)) (fun _ h => h) rfl (by decide +kernel) rfl rfl (Nat.le_of_ble_eq_true rfl) dX6_renew_15 (fun H locs hP hD hS => ?_)
  have hP : va_P g.1 vwCl [(s0, .inr (6, [.ref t0, .int 1, .int lane, .int 0])), (t0, .inl (g.2 0, 20, .inl z0))] H := hP
  have hD : va_D A [(s0, .inr (6, [.ref t0, .int 1, .int lane, .int 0])), (t0, .inl (g.2 0, 20, .inl z0))] := hD
  refine lv_aload_n hx hb dX6_renew_18 rfl (lv_at hl 0 rfl) ?_
  refine lv_iload_n hx hb dX6_renew_19 rfl (lv_at hl 2 rfl) ?_
  refine lv_aload_n hx hb dX6_renew_20 rfl (lv_at hl 0 rfl) ?_
  refine va_get (D := g.1) (ci := 6) (v := .ref t0) (C := RX6) (T := TX6) (N := 4) hx hb hts hi_X6_renew_X6 hown hK hP 0 rfl rfl 0 (by decide) (hts (.fieldLink RX6 9 "OilPush$Sheet" "cells" "[I") (by decide +kernel)) (fun _ h => h) rfl dX6_renew_21 ?_
  refine va_alen (v := 20) hx hb hK hP 1 0 rfl rfl rfl dX6_renew_24 ?_
  refine va_mmin (x := n) (y := 20) hx hb (by rw [hml]; exact hl.1.symm) hown (hts (.methodLink RX6 29 Lib.Math.min.name) (by decide +kernel)) (hts (.static Lib.Math.min.name) (by decide +kernel)) (hts (.initialized "java/lang/Math") (by decide +kernel)) (hts (.code Lib.Math.min.name Lib.Math.min.code 2 (some .int)) (by decide +kernel)) (Nat.le_of_ble_eq_true rfl) (Nat.le_of_ble_eq_true rfl) (Nat.le_of_ble_eq_true rfl) (Nat.le_of_ble_eq_true rfl) dX6_renew_25 ?_
  refine va_put (D := g.1) (ci := 6) (v := .int (if 20 < n then 20 else n)) (ty := .int) (C := RX6) (T := TX6) (N := 4) hx hb hts hi_X6_renew_X6 tyX6 tyX6_ok nmX6 hown hK hP hD hS 0 rfl rfl 3 (by decide) (hts (.fieldLink RX6 35 "OilPush$Sheet" "length" "I") (by decide +kernel)) (fun _ h => h) rfl (by decide +kernel) rfl rfl (Nat.le_of_ble_eq_true rfl) dX6_renew_28 (fun H locs hP hD hS => ?_)
  have hP : va_P g.1 vwCl [(s0, .inr (6, [.ref t0, .int 1, .int lane, .int (if 20 < n then 20 else n)])), (t0, .inl (g.2 0, 20, .inl z0))] H := hP
  have hD : va_D A [(s0, .inr (6, [.ref t0, .int 1, .int lane, .int (if 20 < n then 20 else n)])), (t0, .inl (g.2 0, 20, .inl z0))] := hD
  exact retV C hS () rfl (hP.pick [] rfl) (hD.sub [] rfl rfl) (Nat.le_of_ble_eq_true rfl) (Nat.le_of_ble_eq_true rfl) dX6_renew_31
theorem hi_X11_sheet_X11 : ∀ w ∈ wsX110, w ∈ wsX11_sheet := fun w h => List.mem_cons_of_mem _ (List.mem_append_left _ (List.mem_append_right _ h))
def r_x_sheet (k : Int32) (lane : Int32) (n : Int32) : Int32 := (if k < 0 then (-1) else (if 4 ≤ k then (-1) else (if (r_c_within lane 0 2) = 0 then (-2) else (if n ≤ 20 then (if 0 ≤ n then 1 else ((-10) - 4)) else (-2)))))
set_option maxRecDepth 100000 in
set_option maxHeartbeats 4000000 in
theorem x_sheet (l : Launch) (g : Gt) (h0 : Nat) (a0 : Nat) (a1 : Nat) (a2 : Nat) (a3 : Nat) (a4 : Nat) (a5 : Nat) (a6 : Nat) (a7 : Nat) (a8 : Nat) (a9 : Nat) (a10 : Nat) (s0 : Nat) (s1 : Nat) (s2 : Nat) (s3 : Nat) (t0 : Nat) (t1 : Nat) (t2 : Nat) (t3 : Nat) (k : Int32) (lane : Int32) (n : Int32)  : Ctr l g yX11_sheet wsX11_sheet ({ frames := 2, cells := 0, slots := 0, locals := 45 } : Room) [.ref h0, .int k, .int lane, .int n] [(h0, .inr (11, [.ref a0, .ref a1, .ref a2, .ref a3, .ref a4, .ref a5, .ref a6, .ref a7, .ref a8, .ref a9, .ref a10, .int 0, .int 0, .int 0, .int 0])), (a9, .inl (g.2 4, 4, .inr (.inr (.inr (.inr (va_up (va_up (va_up (va_up (fun _ => none) 0 (some s0)) 1 (some s1)) 2 (some s2)) 3 (some s3))))))), (s0, .inr (6, [.ref t0, .int 0, .int 0, .int 0])), (s1, .inr (6, [.ref t1, .int 0, .int 0, .int 0])), (s2, .inr (6, [.ref t2, .int 0, .int 0, .int 0])), (s3, .inr (6, [.ref t3, .int 0, .int 0, .int 0])), (t0, .inl (g.2 0, 20, .inl z0)), (t1, .inl (g.2 0, 20, .inl z0)), (t2, .inl (g.2 0, 20, .inl z0)), (t3, .inl (g.2 0, 20, .inl z0))] (fun A => QI g A (fun r (_ : Unit) => r = (r_x_sheet k lane n)) (fun _u : Unit => [])) := by
  refine Ctr.of (cc := cX11_sheet) (maxL := 5) (ret := (some .int)) (by decide) rfl (Nat.le_of_ble_eq_true rfl) ?_
  intro p e s m below meth c A ls H C hP hD hA hS hl
  obtain ⟨hx, hb, hr, hts, hown, hlocks, hml, hin, hKN⟩ := id C
  have hK := hKN.1
  have hN := hKN.2
  have F : CallFix p m c cX11_sheet 5 s _ wsX11_sheet yX11_sheet.cls := ⟨hx, hb, hml, hown, hts⟩
  have hl : lv_has ls 5 [(0, .ref h0), (1, .int k), (2, .int lane), (3, .int n)] := hl
  refine lv_aload_n hx hb dX11_sheet_0 rfl (lv_at hl 0 rfl) ?_
  refine lv_iconst (v := 0) hx hb dX11_sheet_1 (by decide) ?_
  refine va_put (D := g.1) (ci := 11) (v := .int 0) (ty := .int) (C := RX11) (T := TX11) (N := 15) hx hb hts hi_X11_sheet_X11 tyX11 tyX11_ok nmX11 hown hK hP hD hS 0 rfl rfl 11 (by decide) (hts (.fieldLink RX11 110 "OilPush" "latestFault" "I") (by decide +kernel)) (fun _ h => h) rfl (by decide +kernel) rfl rfl (Nat.le_of_ble_eq_true rfl) dX11_sheet_2 (fun H locs hP hD hS => ?_)
  have hP : va_P g.1 vwCl [(h0, .inr (11, [.ref a0, .ref a1, .ref a2, .ref a3, .ref a4, .ref a5, .ref a6, .ref a7, .ref a8, .ref a9, .ref a10, .int 0, .int 0, .int 0, .int 0])), (a9, .inl (g.2 4, 4, .inr (.inr (.inr (.inr (va_up (va_up (va_up (va_up (fun _ => none) 0 (some s0)) 1 (some s1)) 2 (some s2)) 3 (some s3))))))), (s0, .inr (6, [.ref t0, .int 0, .int 0, .int 0])), (s1, .inr (6, [.ref t1, .int 0, .int 0, .int 0])), (s2, .inr (6, [.ref t2, .int 0, .int 0, .int 0])), (s3, .inr (6, [.ref t3, .int 0, .int 0, .int 0])), (t0, .inl (g.2 0, 20, .inl z0)), (t1, .inl (g.2 0, 20, .inl z0)), (t2, .inl (g.2 0, 20, .inl z0)), (t3, .inl (g.2 0, 20, .inl z0))] H := hP
  have hD : va_D A [(h0, .inr (11, [.ref a0, .ref a1, .ref a2, .ref a3, .ref a4, .ref a5, .ref a6, .ref a7, .ref a8, .ref a9, .ref a10, .int 0, .int 0, .int 0, .int 0])), (a9, .inl (g.2 4, 4, .inr (.inr (.inr (.inr (va_up (va_up (va_up (va_up (fun _ => none) 0 (some s0)) 1 (some s1)) 2 (some s2)) 3 (some s3))))))), (s0, .inr (6, [.ref t0, .int 0, .int 0, .int 0])), (s1, .inr (6, [.ref t1, .int 0, .int 0, .int 0])), (s2, .inr (6, [.ref t2, .int 0, .int 0, .int 0])), (s3, .inr (6, [.ref t3, .int 0, .int 0, .int 0])), (t0, .inl (g.2 0, 20, .inl z0)), (t1, .inl (g.2 0, 20, .inl z0)), (t2, .inl (g.2 0, 20, .inl z0)), (t3, .inl (g.2 0, 20, .inl z0))] := hD
  refine lv_aload_n hx hb dX11_sheet_5 rfl (lv_at hl 0 rfl) ?_
  refine lv_iload_n hx hb dX11_sheet_6 rfl (lv_at hl 1 rfl) ?_
  refine callQV (As := [.int k]) (rest := []) (wr := [(s0, .inr (6, [.ref t0, .int 0, .int 0, .int 0])), (s1, .inr (6, [.ref t1, .int 0, .int 0, .int 0])), (s2, .inr (6, [.ref t2, .int 0, .int 0, .int 0])), (s3, .inr (6, [.ref t3, .int 0, .int 0, .int 0])), (t0, .inl (g.2 0, 20, .inl z0)), (t1, .inl (g.2 0, 20, .inl z0)), (t2, .inl (g.2 0, 20, .inl z0)), (t3, .inl (g.2 0, 20, .inl z0))]) (Cn := RX11) C (c_sheetAt l g h0 a0 a1 a2 a3 a4 a5 a6 a7 a8 a9 a10 s0 s1 s2 s3 k) 1 gX11_sheet_X11_sheetAt rfl (by decide +kernel) ⟨(Nat.le_of_ble_eq_true rfl), (Nat.le_of_ble_eq_true rfl)⟩ [0, 1] [2, 3, 4, 5, 6, 7, 8, 9] hP hD hA hS rfl rfl rfl rfl (by decide) (k := 0) (ci := 11) rfl rfl rfl rfl hl.1 rfl (Nat.le_of_ble_eq_true rfl) dX11_sheet_7 ⟨(Nat.le_of_ble_eq_true rfl), (Nat.le_of_ble_eq_true rfl)⟩ (fun r _u H locs hw hP hD hS => ?_)
  have hP : va_P g.1 vwCl [(s0, .inr (6, [.ref t0, .int 0, .int 0, .int 0])), (s1, .inr (6, [.ref t1, .int 0, .int 0, .int 0])), (s2, .inr (6, [.ref t2, .int 0, .int 0, .int 0])), (s3, .inr (6, [.ref t3, .int 0, .int 0, .int 0])), (t0, .inl (g.2 0, 20, .inl z0)), (t1, .inl (g.2 0, 20, .inl z0)), (t2, .inl (g.2 0, 20, .inl z0)), (t3, .inl (g.2 0, 20, .inl z0)), (h0, .inr (11, [.ref a0, .ref a1, .ref a2, .ref a3, .ref a4, .ref a5, .ref a6, .ref a7, .ref a8, .ref a9, .ref a10, .int 0, .int 0, .int 0, .int 0])), (a9, .inl (g.2 4, 4, .inr (.inr (.inr (.inr (va_up (va_up (va_up (va_up (fun _ => none) 0 (some s0)) 1 (some s1)) 2 (some s2)) 3 (some s3)))))))] H := hP
  have hD : va_D A [(s0, .inr (6, [.ref t0, .int 0, .int 0, .int 0])), (s1, .inr (6, [.ref t1, .int 0, .int 0, .int 0])), (s2, .inr (6, [.ref t2, .int 0, .int 0, .int 0])), (s3, .inr (6, [.ref t3, .int 0, .int 0, .int 0])), (t0, .inl (g.2 0, 20, .inl z0)), (t1, .inl (g.2 0, 20, .inl z0)), (t2, .inl (g.2 0, 20, .inl z0)), (t3, .inl (g.2 0, 20, .inl z0)), (h0, .inr (11, [.ref a0, .ref a1, .ref a2, .ref a3, .ref a4, .ref a5, .ref a6, .ref a7, .ref a8, .ref a9, .ref a10, .int 0, .int 0, .int 0, .int 0])), (a9, .inl (g.2 4, 4, .inr (.inr (.inr (.inr (va_up (va_up (va_up (va_up (fun _ => none) 0 (some s0)) 1 (some s1)) 2 (some s2)) 3 (some s3)))))))] := hD
  subst hw
  by_cases b1 : k < 0
  · refine nx_v (v := .null) (by unfold r_c_sheetAt; rw [if_pos b1]; rfl) ?_
    refine lv_astoreN (lv' := [(4, .null), (0, .ref h0), (1, .int k), (2, .int lane), (3, .int n)]) hx hb dX11_sheet_10 hl (by decide) rfl (fun ls hl => ?_)
    refine lv_aloadN hx hb dX11_sheet_12 (lv_at hl 0 rfl) ?_
    refine lv_ifnonnullN hx hb dX11_sheet_14 ?_
    refine lv_iconst (v := -1) hx hb dX11_sheet_17 (by decide) ?_
    exact retI C hS () (by unfold r_x_sheet; rw [if_pos b1]) (hP.pick [] rfl) (hD.sub [] rfl rfl) (Nat.le_of_ble_eq_true rfl) (Nat.le_of_ble_eq_true rfl) dX11_sheet_18
  by_cases b2 : 4 ≤ k
  · refine nx_v (v := .null) (by unfold r_c_sheetAt; rw [if_neg b1, if_pos b2]; rfl) ?_
    refine lv_astoreN (lv' := [(4, .null), (0, .ref h0), (1, .int k), (2, .int lane), (3, .int n)]) hx hb dX11_sheet_10 hl (by decide) rfl (fun ls hl => ?_)
    refine lv_aloadN hx hb dX11_sheet_12 (lv_at hl 0 rfl) ?_
    refine lv_ifnonnullN hx hb dX11_sheet_14 ?_
    refine lv_iconst (v := -1) hx hb dX11_sheet_17 (by decide) ?_
    exact retI C hS () (by unfold r_x_sheet; rw [if_neg b1, if_pos b2]) (hP.pick [] rfl) (hD.sub [] rfl rfl) (Nat.le_of_ble_eq_true rfl) (Nat.le_of_ble_eq_true rfl) dX11_sheet_18
  rcases in4 b1 b2 with e3 | e3 | e3 | e3
  · refine nx_v (v := .ref s0) (by unfold r_c_sheetAt; rw [if_neg b1, if_neg b2, e3]; rfl) ?_
    refine lv_astore (lv' := [(4, .ref s0), (0, .ref h0), (1, .int k), (2, .int lane), (3, .int n)]) hx hb dX11_sheet_10 hl (by decide) rfl (fun ls hl => ?_)
    refine lv_aload hx hb dX11_sheet_12 (lv_at hl 0 rfl) ?_
    refine lv_ifnonnull (tgt := 19) hx hb dX11_sheet_14 (by decide) ?_
    refine lv_iload_n hx hb dX11_sheet_19 rfl (lv_at hl 3 rfl) ?_
    refine pureIS (As := [.int lane]) (rest := []) F (c_isLane l lane) 1 gX11_sheet_X11_isLane rfl (by decide +kernel) rfl rfl ⟨(Nat.le_of_ble_eq_true rfl), (Nat.le_of_ble_eq_true rfl)⟩ (Nat.le_of_ble_eq_true rfl) (Nat.le_of_ble_eq_true rfl) rfl hl.1 rfl (Nat.le_of_ble_eq_true rfl) dX11_sheet_20 ?_
    refine lv_if_eq (tgt := 32) hx hb dX11_sheet_23 (by decide) (fun c4 => ?_) (fun c4 => ?_)
    · refine lv_bipush (v := -2) hx hb dX11_sheet_32 (by decide) ?_
      exact retI C hS () (by unfold r_x_sheet; rw [if_neg b1, if_neg b2, if_pos c4]) (hP.pick [] rfl) (hD.sub [] rfl rfl) (Nat.le_of_ble_eq_true rfl) (Nat.le_of_ble_eq_true rfl) dX11_sheet_34
    refine lv_iload_n hx hb dX11_sheet_26 rfl (lv_at hl 4 rfl) ?_
    refine lv_bipush (v := 20) hx hb dX11_sheet_27 (by decide) ?_
    refine lv_icmp_le (tgt := 35) hx hb dX11_sheet_29 (by decide) (fun c5 => ?_) (fun c5 => ?_)
    · refine lv_iload_n hx hb dX11_sheet_35 rfl (lv_at hl 4 rfl) ?_
      refine lv_if_ge (tgt := 45) hx hb dX11_sheet_36 (by decide) (fun c6 => ?_) (fun c6 => ?_)
      · refine lv_aload hx hb dX11_sheet_45 (lv_at hl 0 rfl) ?_
        refine lv_iload_n hx hb dX11_sheet_47 rfl (lv_at hl 3 rfl) ?_
        refine lv_iload_n hx hb dX11_sheet_48 rfl (lv_at hl 4 rfl) ?_
        refine callVV (As := [.int lane, .int n]) (rest := []) (wr := [(s1, .inr (6, [.ref t1, .int 0, .int 0, .int 0])), (s2, .inr (6, [.ref t2, .int 0, .int 0, .int 0])), (s3, .inr (6, [.ref t3, .int 0, .int 0, .int 0])), (t1, .inl (g.2 0, 20, .inl z0)), (t2, .inl (g.2 0, 20, .inl z0)), (t3, .inl (g.2 0, 20, .inl z0)), (h0, .inr (11, [.ref a0, .ref a1, .ref a2, .ref a3, .ref a4, .ref a5, .ref a6, .ref a7, .ref a8, .ref a9, .ref a10, .int 0, .int 0, .int 0, .int 0])), (a9, .inl (g.2 4, 4, .inr (.inr (.inr (.inr (va_up (va_up (va_up (va_up (fun _ => none) 0 (some s0)) 1 (some s1)) 2 (some s2)) 3 (some s3)))))))]) (Cn := RX6) C (c_renew l g s0 t0 lane n) 2 gX11_sheet_X6_renew rfl (by decide +kernel) ⟨(Nat.le_of_ble_eq_true rfl), (Nat.le_of_ble_eq_true rfl)⟩ [0, 4] [1, 2, 3, 5, 6, 7, 8, 9] hP hD hA hS rfl rfl rfl rfl (by decide) (k := 0) (ci := 6) rfl rfl rfl rfl hl.1 rfl (Nat.le_of_ble_eq_true rfl) dX11_sheet_49 ⟨(Nat.le_of_ble_eq_true rfl), (Nat.le_of_ble_eq_true rfl)⟩ (fun _u H locs hw hP hD hS => ?_)
        have hP : va_P g.1 vwCl [(s1, .inr (6, [.ref t1, .int 0, .int 0, .int 0])), (s2, .inr (6, [.ref t2, .int 0, .int 0, .int 0])), (s3, .inr (6, [.ref t3, .int 0, .int 0, .int 0])), (t1, .inl (g.2 0, 20, .inl z0)), (t2, .inl (g.2 0, 20, .inl z0)), (t3, .inl (g.2 0, 20, .inl z0)), (h0, .inr (11, [.ref a0, .ref a1, .ref a2, .ref a3, .ref a4, .ref a5, .ref a6, .ref a7, .ref a8, .ref a9, .ref a10, .int 0, .int 0, .int 0, .int 0])), (a9, .inl (g.2 4, 4, .inr (.inr (.inr (.inr (va_up (va_up (va_up (va_up (fun _ => none) 0 (some s0)) 1 (some s1)) 2 (some s2)) 3 (some s3)))))))] H := hP
        have hD : va_D A [(s1, .inr (6, [.ref t1, .int 0, .int 0, .int 0])), (s2, .inr (6, [.ref t2, .int 0, .int 0, .int 0])), (s3, .inr (6, [.ref t3, .int 0, .int 0, .int 0])), (t1, .inl (g.2 0, 20, .inl z0)), (t2, .inl (g.2 0, 20, .inl z0)), (t3, .inl (g.2 0, 20, .inl z0)), (h0, .inr (11, [.ref a0, .ref a1, .ref a2, .ref a3, .ref a4, .ref a5, .ref a6, .ref a7, .ref a8, .ref a9, .ref a10, .int 0, .int 0, .int 0, .int 0])), (a9, .inl (g.2 4, 4, .inr (.inr (.inr (.inr (va_up (va_up (va_up (va_up (fun _ => none) 0 (some s0)) 1 (some s1)) 2 (some s2)) 3 (some s3)))))))] := hD
        refine lv_iconst (v := 1) hx hb dX11_sheet_52 (by decide) ?_
        exact retI C hS () (by unfold r_x_sheet; rw [if_neg b1, if_neg b2, if_neg c4, if_pos c5, if_pos c6]) (hP.pick [] rfl) (hD.sub [] rfl rfl) (Nat.le_of_ble_eq_true rfl) (Nat.le_of_ble_eq_true rfl) dX11_sheet_53
      refine lv_aload_n hx hb dX11_sheet_39 rfl (lv_at hl 1 rfl) ?_
      refine lv_iconst (v := 4) hx hb dX11_sheet_40 (by decide) ?_
      refine callIV (As := [.int 4]) (rest := []) (wr := [(s0, .inr (6, [.ref t0, .int 0, .int 0, .int 0])), (s1, .inr (6, [.ref t1, .int 0, .int 0, .int 0])), (s2, .inr (6, [.ref t2, .int 0, .int 0, .int 0])), (s3, .inr (6, [.ref t3, .int 0, .int 0, .int 0])), (t0, .inl (g.2 0, 20, .inl z0)), (t1, .inl (g.2 0, 20, .inl z0)), (t2, .inl (g.2 0, 20, .inl z0)), (t3, .inl (g.2 0, 20, .inl z0)), (a9, .inl (g.2 4, 4, .inr (.inr (.inr (.inr (va_up (va_up (va_up (va_up (fun _ => none) 0 (some s0)) 1 (some s1)) 2 (some s2)) 3 (some s3)))))))]) (Cn := RX11) C (c_faulted l g h0 a0 a1 a2 a3 a4 a5 a6 a7 a8 a9 a10 0 4) 1 gX11_sheet_X11_faulted rfl (by decide +kernel) ⟨(Nat.le_of_ble_eq_true rfl), (Nat.le_of_ble_eq_true rfl)⟩ [8] [0, 1, 2, 3, 4, 5, 6, 7, 9] hP hD hA hS rfl rfl rfl rfl (by decide) (k := 8) (ci := 11) rfl rfl rfl rfl hl.1 rfl (Nat.le_of_ble_eq_true rfl) dX11_sheet_41 ⟨(Nat.le_of_ble_eq_true rfl), (Nat.le_of_ble_eq_true rfl)⟩ (fun r _u H locs hw hP hD hS => ?_)
      have hP : va_P g.1 vwCl [(s0, .inr (6, [.ref t0, .int 0, .int 0, .int 0])), (s1, .inr (6, [.ref t1, .int 0, .int 0, .int 0])), (s2, .inr (6, [.ref t2, .int 0, .int 0, .int 0])), (s3, .inr (6, [.ref t3, .int 0, .int 0, .int 0])), (t0, .inl (g.2 0, 20, .inl z0)), (t1, .inl (g.2 0, 20, .inl z0)), (t2, .inl (g.2 0, 20, .inl z0)), (t3, .inl (g.2 0, 20, .inl z0)), (a9, .inl (g.2 4, 4, .inr (.inr (.inr (.inr (va_up (va_up (va_up (va_up (fun _ => none) 0 (some s0)) 1 (some s1)) 2 (some s2)) 3 (some s3)))))))] H := hP
      have hD : va_D A [(s0, .inr (6, [.ref t0, .int 0, .int 0, .int 0])), (s1, .inr (6, [.ref t1, .int 0, .int 0, .int 0])), (s2, .inr (6, [.ref t2, .int 0, .int 0, .int 0])), (s3, .inr (6, [.ref t3, .int 0, .int 0, .int 0])), (t0, .inl (g.2 0, 20, .inl z0)), (t1, .inl (g.2 0, 20, .inl z0)), (t2, .inl (g.2 0, 20, .inl z0)), (t3, .inl (g.2 0, 20, .inl z0)), (a9, .inl (g.2 4, 4, .inr (.inr (.inr (.inr (va_up (va_up (va_up (va_up (fun _ => none) 0 (some s0)) 1 (some s1)) 2 (some s2)) 3 (some s3)))))))] := hD
      subst hw
      exact retI C hS () (by unfold r_x_sheet; rw [if_neg b1, if_neg b2, if_neg c4, if_pos c5, if_neg c6]) (hP.pick [] rfl) (hD.sub [] rfl rfl) (Nat.le_of_ble_eq_true rfl) (Nat.le_of_ble_eq_true rfl) dX11_sheet_44
    refine lv_bipush (v := -2) hx hb dX11_sheet_32 (by decide) ?_
    exact retI C hS () (by unfold r_x_sheet; rw [if_neg b1, if_neg b2, if_neg c4, if_neg c5]) (hP.pick [] rfl) (hD.sub [] rfl rfl) (Nat.le_of_ble_eq_true rfl) (Nat.le_of_ble_eq_true rfl) dX11_sheet_34
  · refine nx_v (v := .ref s1) (by unfold r_c_sheetAt; rw [if_neg b1, if_neg b2, e3]; rfl) ?_
    refine lv_astore (lv' := [(4, .ref s1), (0, .ref h0), (1, .int k), (2, .int lane), (3, .int n)]) hx hb dX11_sheet_10 hl (by decide) rfl (fun ls hl => ?_)
    refine lv_aload hx hb dX11_sheet_12 (lv_at hl 0 rfl) ?_
    refine lv_ifnonnull (tgt := 19) hx hb dX11_sheet_14 (by decide) ?_
    refine lv_iload_n hx hb dX11_sheet_19 rfl (lv_at hl 3 rfl) ?_
    refine pureIS (As := [.int lane]) (rest := []) F (c_isLane l lane) 1 gX11_sheet_X11_isLane rfl (by decide +kernel) rfl rfl ⟨(Nat.le_of_ble_eq_true rfl), (Nat.le_of_ble_eq_true rfl)⟩ (Nat.le_of_ble_eq_true rfl) (Nat.le_of_ble_eq_true rfl) rfl hl.1 rfl (Nat.le_of_ble_eq_true rfl) dX11_sheet_20 ?_
    refine lv_if_eq (tgt := 32) hx hb dX11_sheet_23 (by decide) (fun c7 => ?_) (fun c7 => ?_)
    · refine lv_bipush (v := -2) hx hb dX11_sheet_32 (by decide) ?_
      exact retI C hS () (by unfold r_x_sheet; rw [if_neg b1, if_neg b2, if_pos c7]) (hP.pick [] rfl) (hD.sub [] rfl rfl) (Nat.le_of_ble_eq_true rfl) (Nat.le_of_ble_eq_true rfl) dX11_sheet_34
    refine lv_iload_n hx hb dX11_sheet_26 rfl (lv_at hl 4 rfl) ?_
    refine lv_bipush (v := 20) hx hb dX11_sheet_27 (by decide) ?_
    refine lv_icmp_le (tgt := 35) hx hb dX11_sheet_29 (by decide) (fun c8 => ?_) (fun c8 => ?_)
    · refine lv_iload_n hx hb dX11_sheet_35 rfl (lv_at hl 4 rfl) ?_
      refine lv_if_ge (tgt := 45) hx hb dX11_sheet_36 (by decide) (fun c9 => ?_) (fun c9 => ?_)
      · refine lv_aload hx hb dX11_sheet_45 (lv_at hl 0 rfl) ?_
        refine lv_iload_n hx hb dX11_sheet_47 rfl (lv_at hl 3 rfl) ?_
        refine lv_iload_n hx hb dX11_sheet_48 rfl (lv_at hl 4 rfl) ?_
        refine callVV (As := [.int lane, .int n]) (rest := []) (wr := [(s0, .inr (6, [.ref t0, .int 0, .int 0, .int 0])), (s2, .inr (6, [.ref t2, .int 0, .int 0, .int 0])), (s3, .inr (6, [.ref t3, .int 0, .int 0, .int 0])), (t0, .inl (g.2 0, 20, .inl z0)), (t2, .inl (g.2 0, 20, .inl z0)), (t3, .inl (g.2 0, 20, .inl z0)), (h0, .inr (11, [.ref a0, .ref a1, .ref a2, .ref a3, .ref a4, .ref a5, .ref a6, .ref a7, .ref a8, .ref a9, .ref a10, .int 0, .int 0, .int 0, .int 0])), (a9, .inl (g.2 4, 4, .inr (.inr (.inr (.inr (va_up (va_up (va_up (va_up (fun _ => none) 0 (some s0)) 1 (some s1)) 2 (some s2)) 3 (some s3)))))))]) (Cn := RX6) C (c_renew l g s1 t1 lane n) 2 gX11_sheet_X6_renew rfl (by decide +kernel) ⟨(Nat.le_of_ble_eq_true rfl), (Nat.le_of_ble_eq_true rfl)⟩ [1, 5] [0, 2, 3, 4, 6, 7, 8, 9] hP hD hA hS rfl rfl rfl rfl (by decide) (k := 1) (ci := 6) rfl rfl rfl rfl hl.1 rfl (Nat.le_of_ble_eq_true rfl) dX11_sheet_49 ⟨(Nat.le_of_ble_eq_true rfl), (Nat.le_of_ble_eq_true rfl)⟩ (fun _u H locs hw hP hD hS => ?_)
        have hP : va_P g.1 vwCl [(s0, .inr (6, [.ref t0, .int 0, .int 0, .int 0])), (s2, .inr (6, [.ref t2, .int 0, .int 0, .int 0])), (s3, .inr (6, [.ref t3, .int 0, .int 0, .int 0])), (t0, .inl (g.2 0, 20, .inl z0)), (t2, .inl (g.2 0, 20, .inl z0)), (t3, .inl (g.2 0, 20, .inl z0)), (h0, .inr (11, [.ref a0, .ref a1, .ref a2, .ref a3, .ref a4, .ref a5, .ref a6, .ref a7, .ref a8, .ref a9, .ref a10, .int 0, .int 0, .int 0, .int 0])), (a9, .inl (g.2 4, 4, .inr (.inr (.inr (.inr (va_up (va_up (va_up (va_up (fun _ => none) 0 (some s0)) 1 (some s1)) 2 (some s2)) 3 (some s3)))))))] H := hP
        have hD : va_D A [(s0, .inr (6, [.ref t0, .int 0, .int 0, .int 0])), (s2, .inr (6, [.ref t2, .int 0, .int 0, .int 0])), (s3, .inr (6, [.ref t3, .int 0, .int 0, .int 0])), (t0, .inl (g.2 0, 20, .inl z0)), (t2, .inl (g.2 0, 20, .inl z0)), (t3, .inl (g.2 0, 20, .inl z0)), (h0, .inr (11, [.ref a0, .ref a1, .ref a2, .ref a3, .ref a4, .ref a5, .ref a6, .ref a7, .ref a8, .ref a9, .ref a10, .int 0, .int 0, .int 0, .int 0])), (a9, .inl (g.2 4, 4, .inr (.inr (.inr (.inr (va_up (va_up (va_up (va_up (fun _ => none) 0 (some s0)) 1 (some s1)) 2 (some s2)) 3 (some s3)))))))] := hD
        refine lv_iconst (v := 1) hx hb dX11_sheet_52 (by decide) ?_
        exact retI C hS () (by unfold r_x_sheet; rw [if_neg b1, if_neg b2, if_neg c7, if_pos c8, if_pos c9]) (hP.pick [] rfl) (hD.sub [] rfl rfl) (Nat.le_of_ble_eq_true rfl) (Nat.le_of_ble_eq_true rfl) dX11_sheet_53
      refine lv_aload_n hx hb dX11_sheet_39 rfl (lv_at hl 1 rfl) ?_
      refine lv_iconst (v := 4) hx hb dX11_sheet_40 (by decide) ?_
      refine callIV (As := [.int 4]) (rest := []) (wr := [(s0, .inr (6, [.ref t0, .int 0, .int 0, .int 0])), (s1, .inr (6, [.ref t1, .int 0, .int 0, .int 0])), (s2, .inr (6, [.ref t2, .int 0, .int 0, .int 0])), (s3, .inr (6, [.ref t3, .int 0, .int 0, .int 0])), (t0, .inl (g.2 0, 20, .inl z0)), (t1, .inl (g.2 0, 20, .inl z0)), (t2, .inl (g.2 0, 20, .inl z0)), (t3, .inl (g.2 0, 20, .inl z0)), (a9, .inl (g.2 4, 4, .inr (.inr (.inr (.inr (va_up (va_up (va_up (va_up (fun _ => none) 0 (some s0)) 1 (some s1)) 2 (some s2)) 3 (some s3)))))))]) (Cn := RX11) C (c_faulted l g h0 a0 a1 a2 a3 a4 a5 a6 a7 a8 a9 a10 0 4) 1 gX11_sheet_X11_faulted rfl (by decide +kernel) ⟨(Nat.le_of_ble_eq_true rfl), (Nat.le_of_ble_eq_true rfl)⟩ [8] [0, 1, 2, 3, 4, 5, 6, 7, 9] hP hD hA hS rfl rfl rfl rfl (by decide) (k := 8) (ci := 11) rfl rfl rfl rfl hl.1 rfl (Nat.le_of_ble_eq_true rfl) dX11_sheet_41 ⟨(Nat.le_of_ble_eq_true rfl), (Nat.le_of_ble_eq_true rfl)⟩ (fun r _u H locs hw hP hD hS => ?_)
      have hP : va_P g.1 vwCl [(s0, .inr (6, [.ref t0, .int 0, .int 0, .int 0])), (s1, .inr (6, [.ref t1, .int 0, .int 0, .int 0])), (s2, .inr (6, [.ref t2, .int 0, .int 0, .int 0])), (s3, .inr (6, [.ref t3, .int 0, .int 0, .int 0])), (t0, .inl (g.2 0, 20, .inl z0)), (t1, .inl (g.2 0, 20, .inl z0)), (t2, .inl (g.2 0, 20, .inl z0)), (t3, .inl (g.2 0, 20, .inl z0)), (a9, .inl (g.2 4, 4, .inr (.inr (.inr (.inr (va_up (va_up (va_up (va_up (fun _ => none) 0 (some s0)) 1 (some s1)) 2 (some s2)) 3 (some s3)))))))] H := hP
      have hD : va_D A [(s0, .inr (6, [.ref t0, .int 0, .int 0, .int 0])), (s1, .inr (6, [.ref t1, .int 0, .int 0, .int 0])), (s2, .inr (6, [.ref t2, .int 0, .int 0, .int 0])), (s3, .inr (6, [.ref t3, .int 0, .int 0, .int 0])), (t0, .inl (g.2 0, 20, .inl z0)), (t1, .inl (g.2 0, 20, .inl z0)), (t2, .inl (g.2 0, 20, .inl z0)), (t3, .inl (g.2 0, 20, .inl z0)), (a9, .inl (g.2 4, 4, .inr (.inr (.inr (.inr (va_up (va_up (va_up (va_up (fun _ => none) 0 (some s0)) 1 (some s1)) 2 (some s2)) 3 (some s3)))))))] := hD
      subst hw
      exact retI C hS () (by unfold r_x_sheet; rw [if_neg b1, if_neg b2, if_neg c7, if_pos c8, if_neg c9]) (hP.pick [] rfl) (hD.sub [] rfl rfl) (Nat.le_of_ble_eq_true rfl) (Nat.le_of_ble_eq_true rfl) dX11_sheet_44
    refine lv_bipush (v := -2) hx hb dX11_sheet_32 (by decide) ?_
    exact retI C hS () (by unfold r_x_sheet; rw [if_neg b1, if_neg b2, if_neg c7, if_neg c8]) (hP.pick [] rfl) (hD.sub [] rfl rfl) (Nat.le_of_ble_eq_true rfl) (Nat.le_of_ble_eq_true rfl) dX11_sheet_34
  · refine nx_v (v := .ref s2) (by unfold r_c_sheetAt; rw [if_neg b1, if_neg b2, e3]; rfl) ?_
    refine lv_astore (lv' := [(4, .ref s2), (0, .ref h0), (1, .int k), (2, .int lane), (3, .int n)]) hx hb dX11_sheet_10 hl (by decide) rfl (fun ls hl => ?_)
    refine lv_aload hx hb dX11_sheet_12 (lv_at hl 0 rfl) ?_
    refine lv_ifnonnull (tgt := 19) hx hb dX11_sheet_14 (by decide) ?_
    refine lv_iload_n hx hb dX11_sheet_19 rfl (lv_at hl 3 rfl) ?_
    refine pureIS (As := [.int lane]) (rest := []) F (c_isLane l lane) 1 gX11_sheet_X11_isLane rfl (by decide +kernel) rfl rfl ⟨(Nat.le_of_ble_eq_true rfl), (Nat.le_of_ble_eq_true rfl)⟩ (Nat.le_of_ble_eq_true rfl) (Nat.le_of_ble_eq_true rfl) rfl hl.1 rfl (Nat.le_of_ble_eq_true rfl) dX11_sheet_20 ?_
    refine lv_if_eq (tgt := 32) hx hb dX11_sheet_23 (by decide) (fun c10 => ?_) (fun c10 => ?_)
    · refine lv_bipush (v := -2) hx hb dX11_sheet_32 (by decide) ?_
      exact retI C hS () (by unfold r_x_sheet; rw [if_neg b1, if_neg b2, if_pos c10]) (hP.pick [] rfl) (hD.sub [] rfl rfl) (Nat.le_of_ble_eq_true rfl) (Nat.le_of_ble_eq_true rfl) dX11_sheet_34
    refine lv_iload_n hx hb dX11_sheet_26 rfl (lv_at hl 4 rfl) ?_
    refine lv_bipush (v := 20) hx hb dX11_sheet_27 (by decide) ?_
    refine lv_icmp_le (tgt := 35) hx hb dX11_sheet_29 (by decide) (fun c11 => ?_) (fun c11 => ?_)
    · refine lv_iload_n hx hb dX11_sheet_35 rfl (lv_at hl 4 rfl) ?_
      refine lv_if_ge (tgt := 45) hx hb dX11_sheet_36 (by decide) (fun c12 => ?_) (fun c12 => ?_)
      · refine lv_aload hx hb dX11_sheet_45 (lv_at hl 0 rfl) ?_
        refine lv_iload_n hx hb dX11_sheet_47 rfl (lv_at hl 3 rfl) ?_
        refine lv_iload_n hx hb dX11_sheet_48 rfl (lv_at hl 4 rfl) ?_
        refine callVV (As := [.int lane, .int n]) (rest := []) (wr := [(s0, .inr (6, [.ref t0, .int 0, .int 0, .int 0])), (s1, .inr (6, [.ref t1, .int 0, .int 0, .int 0])), (s3, .inr (6, [.ref t3, .int 0, .int 0, .int 0])), (t0, .inl (g.2 0, 20, .inl z0)), (t1, .inl (g.2 0, 20, .inl z0)), (t3, .inl (g.2 0, 20, .inl z0)), (h0, .inr (11, [.ref a0, .ref a1, .ref a2, .ref a3, .ref a4, .ref a5, .ref a6, .ref a7, .ref a8, .ref a9, .ref a10, .int 0, .int 0, .int 0, .int 0])), (a9, .inl (g.2 4, 4, .inr (.inr (.inr (.inr (va_up (va_up (va_up (va_up (fun _ => none) 0 (some s0)) 1 (some s1)) 2 (some s2)) 3 (some s3)))))))]) (Cn := RX6) C (c_renew l g s2 t2 lane n) 2 gX11_sheet_X6_renew rfl (by decide +kernel) ⟨(Nat.le_of_ble_eq_true rfl), (Nat.le_of_ble_eq_true rfl)⟩ [2, 6] [0, 1, 3, 4, 5, 7, 8, 9] hP hD hA hS rfl rfl rfl rfl (by decide) (k := 2) (ci := 6) rfl rfl rfl rfl hl.1 rfl (Nat.le_of_ble_eq_true rfl) dX11_sheet_49 ⟨(Nat.le_of_ble_eq_true rfl), (Nat.le_of_ble_eq_true rfl)⟩ (fun _u H locs hw hP hD hS => ?_)
        have hP : va_P g.1 vwCl [(s0, .inr (6, [.ref t0, .int 0, .int 0, .int 0])), (s1, .inr (6, [.ref t1, .int 0, .int 0, .int 0])), (s3, .inr (6, [.ref t3, .int 0, .int 0, .int 0])), (t0, .inl (g.2 0, 20, .inl z0)), (t1, .inl (g.2 0, 20, .inl z0)), (t3, .inl (g.2 0, 20, .inl z0)), (h0, .inr (11, [.ref a0, .ref a1, .ref a2, .ref a3, .ref a4, .ref a5, .ref a6, .ref a7, .ref a8, .ref a9, .ref a10, .int 0, .int 0, .int 0, .int 0])), (a9, .inl (g.2 4, 4, .inr (.inr (.inr (.inr (va_up (va_up (va_up (va_up (fun _ => none) 0 (some s0)) 1 (some s1)) 2 (some s2)) 3 (some s3)))))))] H := hP
        have hD : va_D A [(s0, .inr (6, [.ref t0, .int 0, .int 0, .int 0])), (s1, .inr (6, [.ref t1, .int 0, .int 0, .int 0])), (s3, .inr (6, [.ref t3, .int 0, .int 0, .int 0])), (t0, .inl (g.2 0, 20, .inl z0)), (t1, .inl (g.2 0, 20, .inl z0)), (t3, .inl (g.2 0, 20, .inl z0)), (h0, .inr (11, [.ref a0, .ref a1, .ref a2, .ref a3, .ref a4, .ref a5, .ref a6, .ref a7, .ref a8, .ref a9, .ref a10, .int 0, .int 0, .int 0, .int 0])), (a9, .inl (g.2 4, 4, .inr (.inr (.inr (.inr (va_up (va_up (va_up (va_up (fun _ => none) 0 (some s0)) 1 (some s1)) 2 (some s2)) 3 (some s3)))))))] := hD
        refine lv_iconst (v := 1) hx hb dX11_sheet_52 (by decide) ?_
        exact retI C hS () (by unfold r_x_sheet; rw [if_neg b1, if_neg b2, if_neg c10, if_pos c11, if_pos c12]) (hP.pick [] rfl) (hD.sub [] rfl rfl) (Nat.le_of_ble_eq_true rfl) (Nat.le_of_ble_eq_true rfl) dX11_sheet_53
      refine lv_aload_n hx hb dX11_sheet_39 rfl (lv_at hl 1 rfl) ?_
      refine lv_iconst (v := 4) hx hb dX11_sheet_40 (by decide) ?_
      refine callIV (As := [.int 4]) (rest := []) (wr := [(s0, .inr (6, [.ref t0, .int 0, .int 0, .int 0])), (s1, .inr (6, [.ref t1, .int 0, .int 0, .int 0])), (s2, .inr (6, [.ref t2, .int 0, .int 0, .int 0])), (s3, .inr (6, [.ref t3, .int 0, .int 0, .int 0])), (t0, .inl (g.2 0, 20, .inl z0)), (t1, .inl (g.2 0, 20, .inl z0)), (t2, .inl (g.2 0, 20, .inl z0)), (t3, .inl (g.2 0, 20, .inl z0)), (a9, .inl (g.2 4, 4, .inr (.inr (.inr (.inr (va_up (va_up (va_up (va_up (fun _ => none) 0 (some s0)) 1 (some s1)) 2 (some s2)) 3 (some s3)))))))]) (Cn := RX11) C (c_faulted l g h0 a0 a1 a2 a3 a4 a5 a6 a7 a8 a9 a10 0 4) 1 gX11_sheet_X11_faulted rfl (by decide +kernel) ⟨(Nat.le_of_ble_eq_true rfl), (Nat.le_of_ble_eq_true rfl)⟩ [8] [0, 1, 2, 3, 4, 5, 6, 7, 9] hP hD hA hS rfl rfl rfl rfl (by decide) (k := 8) (ci := 11) rfl rfl rfl rfl hl.1 rfl (Nat.le_of_ble_eq_true rfl) dX11_sheet_41 ⟨(Nat.le_of_ble_eq_true rfl), (Nat.le_of_ble_eq_true rfl)⟩ (fun r _u H locs hw hP hD hS => ?_)
      have hP : va_P g.1 vwCl [(s0, .inr (6, [.ref t0, .int 0, .int 0, .int 0])), (s1, .inr (6, [.ref t1, .int 0, .int 0, .int 0])), (s2, .inr (6, [.ref t2, .int 0, .int 0, .int 0])), (s3, .inr (6, [.ref t3, .int 0, .int 0, .int 0])), (t0, .inl (g.2 0, 20, .inl z0)), (t1, .inl (g.2 0, 20, .inl z0)), (t2, .inl (g.2 0, 20, .inl z0)), (t3, .inl (g.2 0, 20, .inl z0)), (a9, .inl (g.2 4, 4, .inr (.inr (.inr (.inr (va_up (va_up (va_up (va_up (fun _ => none) 0 (some s0)) 1 (some s1)) 2 (some s2)) 3 (some s3)))))))] H := hP
      have hD : va_D A [(s0, .inr (6, [.ref t0, .int 0, .int 0, .int 0])), (s1, .inr (6, [.ref t1, .int 0, .int 0, .int 0])), (s2, .inr (6, [.ref t2, .int 0, .int 0, .int 0])), (s3, .inr (6, [.ref t3, .int 0, .int 0, .int 0])), (t0, .inl (g.2 0, 20, .inl z0)), (t1, .inl (g.2 0, 20, .inl z0)), (t2, .inl (g.2 0, 20, .inl z0)), (t3, .inl (g.2 0, 20, .inl z0)), (a9, .inl (g.2 4, 4, .inr (.inr (.inr (.inr (va_up (va_up (va_up (va_up (fun _ => none) 0 (some s0)) 1 (some s1)) 2 (some s2)) 3 (some s3)))))))] := hD
      subst hw
      exact retI C hS () (by unfold r_x_sheet; rw [if_neg b1, if_neg b2, if_neg c10, if_pos c11, if_neg c12]) (hP.pick [] rfl) (hD.sub [] rfl rfl) (Nat.le_of_ble_eq_true rfl) (Nat.le_of_ble_eq_true rfl) dX11_sheet_44
    refine lv_bipush (v := -2) hx hb dX11_sheet_32 (by decide) ?_
    exact retI C hS () (by unfold r_x_sheet; rw [if_neg b1, if_neg b2, if_neg c10, if_neg c11]) (hP.pick [] rfl) (hD.sub [] rfl rfl) (Nat.le_of_ble_eq_true rfl) (Nat.le_of_ble_eq_true rfl) dX11_sheet_34
  · refine nx_v (v := .ref s3) (by unfold r_c_sheetAt; rw [if_neg b1, if_neg b2, e3]; rfl) ?_
    refine lv_astore (lv' := [(4, .ref s3), (0, .ref h0), (1, .int k), (2, .int lane), (3, .int n)]) hx hb dX11_sheet_10 hl (by decide) rfl (fun ls hl => ?_)
    refine lv_aload hx hb dX11_sheet_12 (lv_at hl 0 rfl) ?_
    refine lv_ifnonnull (tgt := 19) hx hb dX11_sheet_14 (by decide) ?_
    refine lv_iload_n hx hb dX11_sheet_19 rfl (lv_at hl 3 rfl) ?_
    refine pureIS (As := [.int lane]) (rest := []) F (c_isLane l lane) 1 gX11_sheet_X11_isLane rfl (by decide +kernel) rfl rfl ⟨(Nat.le_of_ble_eq_true rfl), (Nat.le_of_ble_eq_true rfl)⟩ (Nat.le_of_ble_eq_true rfl) (Nat.le_of_ble_eq_true rfl) rfl hl.1 rfl (Nat.le_of_ble_eq_true rfl) dX11_sheet_20 ?_
    refine lv_if_eq (tgt := 32) hx hb dX11_sheet_23 (by decide) (fun c13 => ?_) (fun c13 => ?_)
    · refine lv_bipush (v := -2) hx hb dX11_sheet_32 (by decide) ?_
      exact retI C hS () (by unfold r_x_sheet; rw [if_neg b1, if_neg b2, if_pos c13]) (hP.pick [] rfl) (hD.sub [] rfl rfl) (Nat.le_of_ble_eq_true rfl) (Nat.le_of_ble_eq_true rfl) dX11_sheet_34
    refine lv_iload_n hx hb dX11_sheet_26 rfl (lv_at hl 4 rfl) ?_
    refine lv_bipush (v := 20) hx hb dX11_sheet_27 (by decide) ?_
    refine lv_icmp_le (tgt := 35) hx hb dX11_sheet_29 (by decide) (fun c14 => ?_) (fun c14 => ?_)
    · refine lv_iload_n hx hb dX11_sheet_35 rfl (lv_at hl 4 rfl) ?_
      refine lv_if_ge (tgt := 45) hx hb dX11_sheet_36 (by decide) (fun c15 => ?_) (fun c15 => ?_)
      · refine lv_aload hx hb dX11_sheet_45 (lv_at hl 0 rfl) ?_
        refine lv_iload_n hx hb dX11_sheet_47 rfl (lv_at hl 3 rfl) ?_
        refine lv_iload_n hx hb dX11_sheet_48 rfl (lv_at hl 4 rfl) ?_
        refine callVV (As := [.int lane, .int n]) (rest := []) (wr := [(s0, .inr (6, [.ref t0, .int 0, .int 0, .int 0])), (s1, .inr (6, [.ref t1, .int 0, .int 0, .int 0])), (s2, .inr (6, [.ref t2, .int 0, .int 0, .int 0])), (t0, .inl (g.2 0, 20, .inl z0)), (t1, .inl (g.2 0, 20, .inl z0)), (t2, .inl (g.2 0, 20, .inl z0)), (h0, .inr (11, [.ref a0, .ref a1, .ref a2, .ref a3, .ref a4, .ref a5, .ref a6, .ref a7, .ref a8, .ref a9, .ref a10, .int 0, .int 0, .int 0, .int 0])), (a9, .inl (g.2 4, 4, .inr (.inr (.inr (.inr (va_up (va_up (va_up (va_up (fun _ => none) 0 (some s0)) 1 (some s1)) 2 (some s2)) 3 (some s3)))))))]) (Cn := RX6) C (c_renew l g s3 t3 lane n) 2 gX11_sheet_X6_renew rfl (by decide +kernel) ⟨(Nat.le_of_ble_eq_true rfl), (Nat.le_of_ble_eq_true rfl)⟩ [3, 7] [0, 1, 2, 4, 5, 6, 8, 9] hP hD hA hS rfl rfl rfl rfl (by decide) (k := 3) (ci := 6) rfl rfl rfl rfl hl.1 rfl (Nat.le_of_ble_eq_true rfl) dX11_sheet_49 ⟨(Nat.le_of_ble_eq_true rfl), (Nat.le_of_ble_eq_true rfl)⟩ (fun _u H locs hw hP hD hS => ?_)
        have hP : va_P g.1 vwCl [(s0, .inr (6, [.ref t0, .int 0, .int 0, .int 0])), (s1, .inr (6, [.ref t1, .int 0, .int 0, .int 0])), (s2, .inr (6, [.ref t2, .int 0, .int 0, .int 0])), (t0, .inl (g.2 0, 20, .inl z0)), (t1, .inl (g.2 0, 20, .inl z0)), (t2, .inl (g.2 0, 20, .inl z0)), (h0, .inr (11, [.ref a0, .ref a1, .ref a2, .ref a3, .ref a4, .ref a5, .ref a6, .ref a7, .ref a8, .ref a9, .ref a10, .int 0, .int 0, .int 0, .int 0])), (a9, .inl (g.2 4, 4, .inr (.inr (.inr (.inr (va_up (va_up (va_up (va_up (fun _ => none) 0 (some s0)) 1 (some s1)) 2 (some s2)) 3 (some s3)))))))] H := hP
        have hD : va_D A [(s0, .inr (6, [.ref t0, .int 0, .int 0, .int 0])), (s1, .inr (6, [.ref t1, .int 0, .int 0, .int 0])), (s2, .inr (6, [.ref t2, .int 0, .int 0, .int 0])), (t0, .inl (g.2 0, 20, .inl z0)), (t1, .inl (g.2 0, 20, .inl z0)), (t2, .inl (g.2 0, 20, .inl z0)), (h0, .inr (11, [.ref a0, .ref a1, .ref a2, .ref a3, .ref a4, .ref a5, .ref a6, .ref a7, .ref a8, .ref a9, .ref a10, .int 0, .int 0, .int 0, .int 0])), (a9, .inl (g.2 4, 4, .inr (.inr (.inr (.inr (va_up (va_up (va_up (va_up (fun _ => none) 0 (some s0)) 1 (some s1)) 2 (some s2)) 3 (some s3)))))))] := hD
        refine lv_iconst (v := 1) hx hb dX11_sheet_52 (by decide) ?_
        exact retI C hS () (by unfold r_x_sheet; rw [if_neg b1, if_neg b2, if_neg c13, if_pos c14, if_pos c15]) (hP.pick [] rfl) (hD.sub [] rfl rfl) (Nat.le_of_ble_eq_true rfl) (Nat.le_of_ble_eq_true rfl) dX11_sheet_53
      refine lv_aload_n hx hb dX11_sheet_39 rfl (lv_at hl 1 rfl) ?_
      refine lv_iconst (v := 4) hx hb dX11_sheet_40 (by decide) ?_
      refine callIV (As := [.int 4]) (rest := []) (wr := [(s0, .inr (6, [.ref t0, .int 0, .int 0, .int 0])), (s1, .inr (6, [.ref t1, .int 0, .int 0, .int 0])), (s2, .inr (6, [.ref t2, .int 0, .int 0, .int 0])), (s3, .inr (6, [.ref t3, .int 0, .int 0, .int 0])), (t0, .inl (g.2 0, 20, .inl z0)), (t1, .inl (g.2 0, 20, .inl z0)), (t2, .inl (g.2 0, 20, .inl z0)), (t3, .inl (g.2 0, 20, .inl z0)), (a9, .inl (g.2 4, 4, .inr (.inr (.inr (.inr (va_up (va_up (va_up (va_up (fun _ => none) 0 (some s0)) 1 (some s1)) 2 (some s2)) 3 (some s3)))))))]) (Cn := RX11) C (c_faulted l g h0 a0 a1 a2 a3 a4 a5 a6 a7 a8 a9 a10 0 4) 1 gX11_sheet_X11_faulted rfl (by decide +kernel) ⟨(Nat.le_of_ble_eq_true rfl), (Nat.le_of_ble_eq_true rfl)⟩ [8] [0, 1, 2, 3, 4, 5, 6, 7, 9] hP hD hA hS rfl rfl rfl rfl (by decide) (k := 8) (ci := 11) rfl rfl rfl rfl hl.1 rfl (Nat.le_of_ble_eq_true rfl) dX11_sheet_41 ⟨(Nat.le_of_ble_eq_true rfl), (Nat.le_of_ble_eq_true rfl)⟩ (fun r _u H locs hw hP hD hS => ?_)
      have hP : va_P g.1 vwCl [(s0, .inr (6, [.ref t0, .int 0, .int 0, .int 0])), (s1, .inr (6, [.ref t1, .int 0, .int 0, .int 0])), (s2, .inr (6, [.ref t2, .int 0, .int 0, .int 0])), (s3, .inr (6, [.ref t3, .int 0, .int 0, .int 0])), (t0, .inl (g.2 0, 20, .inl z0)), (t1, .inl (g.2 0, 20, .inl z0)), (t2, .inl (g.2 0, 20, .inl z0)), (t3, .inl (g.2 0, 20, .inl z0)), (a9, .inl (g.2 4, 4, .inr (.inr (.inr (.inr (va_up (va_up (va_up (va_up (fun _ => none) 0 (some s0)) 1 (some s1)) 2 (some s2)) 3 (some s3)))))))] H := hP
      have hD : va_D A [(s0, .inr (6, [.ref t0, .int 0, .int 0, .int 0])), (s1, .inr (6, [.ref t1, .int 0, .int 0, .int 0])), (s2, .inr (6, [.ref t2, .int 0, .int 0, .int 0])), (s3, .inr (6, [.ref t3, .int 0, .int 0, .int 0])), (t0, .inl (g.2 0, 20, .inl z0)), (t1, .inl (g.2 0, 20, .inl z0)), (t2, .inl (g.2 0, 20, .inl z0)), (t3, .inl (g.2 0, 20, .inl z0)), (a9, .inl (g.2 4, 4, .inr (.inr (.inr (.inr (va_up (va_up (va_up (va_up (fun _ => none) 0 (some s0)) 1 (some s1)) 2 (some s2)) 3 (some s3)))))))] := hD
      subst hw
      exact retI C hS () (by unfold r_x_sheet; rw [if_neg b1, if_neg b2, if_neg c13, if_pos c14, if_neg c15]) (hP.pick [] rfl) (hD.sub [] rfl rfl) (Nat.le_of_ble_eq_true rfl) (Nat.le_of_ble_eq_true rfl) dX11_sheet_44
    refine lv_bipush (v := -2) hx hb dX11_sheet_32 (by decide) ?_
    exact retI C hS () (by unfold r_x_sheet; rw [if_neg b1, if_neg b2, if_neg c13, if_neg c14]) (hP.pick [] rfl) (hD.sub [] rfl rfl) (Nat.le_of_ble_eq_true rfl) (Nat.le_of_ble_eq_true rfl) dX11_sheet_34
theorem hi_X11_store_X11 : ∀ w ∈ wsX110, w ∈ wsX11_store := fun w h => List.mem_cons_of_mem _ (List.mem_append_left _ (List.mem_append_left _ (List.mem_append_right _ h)))
theorem hi_X11_store_X7 : ∀ w ∈ wsX70, w ∈ wsX11_store := fun w h => List.mem_cons_of_mem _ (List.mem_append_left _ (List.mem_append_right _ h))
theorem hi_X11_store_X8 : ∀ w ∈ wsX80, w ∈ wsX11_store := fun w h => List.mem_cons_of_mem _ (List.mem_append_right _ h)
def r_x_store (x1 : Int32) (x2 : Int32) (x3 : Int32) : Int32 := (if (r_c_within x1 0 5000) = 0 then (-2) else (if (r_c_within x2 0 1000) = 0 then (-2) else (if (r_c_within x3 1 100) = 0 then (-2) else (if 0 ≤ x1 then 1 else (-3)))))
set_option maxRecDepth 100000 in
set_option maxHeartbeats 4000000 in
theorem x_store (l : Launch) (g : Gt) (h0 : Nat) (a0 : Nat) (a1 : Nat) (a2 : Nat) (a3 : Nat) (a4 : Nat) (a5 : Nat) (a6 : Nat) (a7 : Nat) (a8 : Nat) (a9 : Nat) (a10 : Nat) (no : Nat) (nv : Nat) (nb : Nat) (ns : Nat) (x1 : Int32) (x2 : Int32) (x3 : Int32)  : Ctr l g yX11_store wsX11_store ({ frames := 1, cells := 0, slots := 0, locals := 22 } : Room) [.ref h0, .int x1, .int x2, .int x3] [(h0, .inr (11, [.ref a0, .ref a1, .ref a2, .ref a3, .ref a4, .ref a5, .ref a6, .ref a7, .ref a8, .ref a9, .ref a10, .int 0, .int 0, .int 0, .int 0])), (a1, .inr (7, [.ref no, .ref nv, .ref nb, .ref ns, .int 0])), (ns, .inr (8, [.int 0, .int 0, .int 1, .int 0]))] (fun A => QI g A (fun r (_ : Unit) => r = (r_x_store x1 x2 x3)) (fun _u : Unit => [])) := by
  refine Ctr.of (cc := cX11_store) (maxL := 4) (ret := (some .int)) (by decide) rfl (Nat.le_of_ble_eq_true rfl) ?_
  intro p e s m below meth c A ls H C hP hD hA hS hl
  obtain ⟨hx, hb, hr, hts, hown, hlocks, hml, hin, hKN⟩ := id C
  have hK := hKN.1
  have hN := hKN.2
  have F : CallFix p m c cX11_store 4 s _ wsX11_store yX11_store.cls := ⟨hx, hb, hml, hown, hts⟩
  have hl : lv_has ls 4 [(0, .ref h0), (1, .int x1), (2, .int x2), (3, .int x3)] := hl
  refine lv_iload_n hx hb dX11_store_0 rfl (lv_at hl 1 rfl) ?_
  refine lv_iconst (v := 0) hx hb dX11_store_1 (by decide) ?_
  refine lv_sipush (v := 5000) hx hb dX11_store_2 (by decide) ?_
  refine pureIS (As := [.int x1, .int 0, .int 5000]) (rest := []) F (c_within l x1 0 5000) 3 gX11_store_X11_within rfl (by decide +kernel) rfl rfl ⟨(Nat.le_of_ble_eq_true rfl), (Nat.le_of_ble_eq_true rfl)⟩ (Nat.le_of_ble_eq_true rfl) (Nat.le_of_ble_eq_true rfl) rfl hl.1 rfl (Nat.le_of_ble_eq_true rfl) dX11_store_5 ?_
  refine lv_if_eq (tgt := 32) hx hb dX11_store_8 (by decide) (fun c1 => ?_) (fun c1 => ?_)
  · refine lv_bipush (v := -2) hx hb dX11_store_32 (by decide) ?_
    exact retI C hS () (by unfold r_x_store; rw [if_pos c1]) (hP.pick [] rfl) (hD.sub [] rfl rfl) (Nat.le_of_ble_eq_true rfl) (Nat.le_of_ble_eq_true rfl) dX11_store_34
  refine lv_iload_n hx hb dX11_store_11 rfl (lv_at hl 2 rfl) ?_
  refine lv_iconst (v := 0) hx hb dX11_store_12 (by decide) ?_
  refine lv_sipush (v := 1000) hx hb dX11_store_13 (by decide) ?_
  refine pureIS (As := [.int x2, .int 0, .int 1000]) (rest := []) F (c_within l x2 0 1000) 3 gX11_store_X11_within rfl (by decide +kernel) rfl rfl ⟨(Nat.le_of_ble_eq_true rfl), (Nat.le_of_ble_eq_true rfl)⟩ (Nat.le_of_ble_eq_true rfl) (Nat.le_of_ble_eq_true rfl) rfl hl.1 rfl (Nat.le_of_ble_eq_true rfl) dX11_store_16 ?_
  refine lv_if_eq (tgt := 32) hx hb dX11_store_19 (by decide) (fun c2 => ?_) (fun c2 => ?_)
  · refine lv_bipush (v := -2) hx hb dX11_store_32 (by decide) ?_
    exact retI C hS () (by unfold r_x_store; rw [if_neg c1, if_pos c2]) (hP.pick [] rfl) (hD.sub [] rfl rfl) (Nat.le_of_ble_eq_true rfl) (Nat.le_of_ble_eq_true rfl) dX11_store_34
  refine lv_iload_n hx hb dX11_store_22 rfl (lv_at hl 3 rfl) ?_
  refine lv_iconst (v := 1) hx hb dX11_store_23 (by decide) ?_
  refine lv_bipush (v := 100) hx hb dX11_store_24 (by decide) ?_
  refine pureIS (As := [.int x3, .int 1, .int 100]) (rest := []) F (c_within l x3 1 100) 3 gX11_store_X11_within rfl (by decide +kernel) rfl rfl ⟨(Nat.le_of_ble_eq_true rfl), (Nat.le_of_ble_eq_true rfl)⟩ (Nat.le_of_ble_eq_true rfl) (Nat.le_of_ble_eq_true rfl) rfl hl.1 rfl (Nat.le_of_ble_eq_true rfl) dX11_store_26 ?_
  refine lv_if_ne (tgt := 35) hx hb dX11_store_29 (by decide) (fun c3 => ?_) (fun c3 => ?_)
  · refine lv_aload_n hx hb dX11_store_35 rfl (lv_at hl 0 rfl) ?_
    refine va_get (D := g.1) (ci := 11) (v := .ref a1) (C := RX11) (T := TX11) (N := 15) hx hb hts hi_X11_store_X11 hown hK hP 0 rfl rfl 1 (by decide) (hts (.fieldLink RX11 21 "OilPush" "now" "LOilPush$State;") (by decide +kernel)) (fun _ h => h) rfl dX11_store_36 ?_
    refine va_get (D := g.1) (ci := 7) (v := .ref ns) (C := RX7) (T := TX7) (N := 5) hx hb hts hi_X11_store_X7 hown hK hP 1 rfl rfl 3 (by decide) (hts (.fieldLink RX11 155 "OilPush$State" "store" "LOilPush$Store;") (by decide +kernel)) (fun _ h => h) rfl dX11_store_39 ?_
    refine va_get (D := g.1) (ci := 8) (v := .int 0) (C := RX8) (T := TX8) (N := 4) hx hb hts hi_X11_store_X8 hown hK hP 2 rfl rfl 3 (by decide) (hts (.fieldLink RX11 159 "OilPush$Store" "oil" "I") (by decide +kernel)) (fun _ h => h) rfl dX11_store_42 ?_
    refine lv_iload_n hx hb dX11_store_45 rfl (lv_at hl 1 rfl) ?_
    refine lv_icmp_le (tgt := 52) hx hb dX11_store_46 (by decide) (fun c4 => ?_) (fun c4 => ?_)
    · refine lv_aload_n hx hb dX11_store_52 rfl (lv_at hl 0 rfl) ?_
      refine va_get (D := g.1) (ci := 11) (v := .ref a1) (C := RX11) (T := TX11) (N := 15) hx hb hts hi_X11_store_X11 hown hK hP 0 rfl rfl 1 (by decide) (hts (.fieldLink RX11 21 "OilPush" "now" "LOilPush$State;") (by decide +kernel)) (fun _ h => h) rfl dX11_store_53 ?_
      refine va_get (D := g.1) (ci := 7) (v := .ref ns) (C := RX7) (T := TX7) (N := 5) hx hb hts hi_X11_store_X7 hown hK hP 1 rfl rfl 3 (by decide) (hts (.fieldLink RX11 155 "OilPush$State" "store" "LOilPush$Store;") (by decide +kernel)) (fun _ h => h) rfl dX11_store_56 ?_
      refine lv_iload_n hx hb dX11_store_59 rfl (lv_at hl 1 rfl) ?_
      refine va_put (D := g.1) (ci := 8) (v := .int x1) (ty := .int) (C := RX8) (T := TX8) (N := 4) hx hb hts hi_X11_store_X8 tyX8 tyX8_ok nmX8 hown hK hP hD hS 2 rfl rfl 0 (by decide) (hts (.fieldLink RX11 163 "OilPush$Store" "cap" "I") (by decide +kernel)) (fun _ h => h) rfl (by decide +kernel) rfl rfl (Nat.le_of_ble_eq_true rfl) dX11_store_60 (fun H locs hP hD hS => ?_)
      have hP : va_P g.1 vwCl [(h0, .inr (11, [.ref a0, .ref a1, .ref a2, .ref a3, .ref a4, .ref a5, .ref a6, .ref a7, .ref a8, .ref a9, .ref a10, .int 0, .int 0, .int 0, .int 0])), (a1, .inr (7, [.ref no, .ref nv, .ref nb, .ref ns, .int 0])), (ns, .inr (8, [.int x1, .int 0, .int 1, .int 0]))] H := hP
      have hD : va_D A [(h0, .inr (11, [.ref a0, .ref a1, .ref a2, .ref a3, .ref a4, .ref a5, .ref a6, .ref a7, .ref a8, .ref a9, .ref a10, .int 0, .int 0, .int 0, .int 0])), (a1, .inr (7, [.ref no, .ref nv, .ref nb, .ref ns, .int 0])), (ns, .inr (8, [.int x1, .int 0, .int 1, .int 0]))] := hD
      refine lv_aload_n hx hb dX11_store_63 rfl (lv_at hl 0 rfl) ?_
      refine va_get (D := g.1) (ci := 11) (v := .ref a1) (C := RX11) (T := TX11) (N := 15) hx hb hts hi_X11_store_X11 hown hK hP 0 rfl rfl 1 (by decide) (hts (.fieldLink RX11 21 "OilPush" "now" "LOilPush$State;") (by decide +kernel)) (fun _ h => h) rfl dX11_store_64 ?_
      refine va_get (D := g.1) (ci := 7) (v := .ref ns) (C := RX7) (T := TX7) (N := 5) hx hb hts hi_X11_store_X7 hown hK hP 1 rfl rfl 3 (by decide) (hts (.fieldLink RX11 155 "OilPush$State" "store" "LOilPush$Store;") (by decide +kernel)) (fun _ h => h) rfl dX11_store_67 ?_
      refine lv_iload_n hx hb dX11_store_70 rfl (lv_at hl 2 rfl) ?_
      refine va_put (D := g.1) (ci := 8) (v := .int x2) (ty := .int) (C := RX8) (T := TX8) (N := 4) hx hb hts hi_X11_store_X8 tyX8 tyX8_ok nmX8 hown hK hP hD hS 2 rfl rfl 1 (by decide) (hts (.fieldLink RX11 166 "OilPush$Store" "first" "I") (by decide +kernel)) (fun _ h => h) rfl (by decide +kernel) rfl rfl (Nat.le_of_ble_eq_true rfl) dX11_store_71 (fun H locs hP hD hS => ?_)
      have hP : va_P g.1 vwCl [(h0, .inr (11, [.ref a0, .ref a1, .ref a2, .ref a3, .ref a4, .ref a5, .ref a6, .ref a7, .ref a8, .ref a9, .ref a10, .int 0, .int 0, .int 0, .int 0])), (a1, .inr (7, [.ref no, .ref nv, .ref nb, .ref ns, .int 0])), (ns, .inr (8, [.int x1, .int x2, .int 1, .int 0]))] H := hP
      have hD : va_D A [(h0, .inr (11, [.ref a0, .ref a1, .ref a2, .ref a3, .ref a4, .ref a5, .ref a6, .ref a7, .ref a8, .ref a9, .ref a10, .int 0, .int 0, .int 0, .int 0])), (a1, .inr (7, [.ref no, .ref nv, .ref nb, .ref ns, .int 0])), (ns, .inr (8, [.int x1, .int x2, .int 1, .int 0]))] := hD
      refine lv_aload_n hx hb dX11_store_74 rfl (lv_at hl 0 rfl) ?_
      refine va_get (D := g.1) (ci := 11) (v := .ref a1) (C := RX11) (T := TX11) (N := 15) hx hb hts hi_X11_store_X11 hown hK hP 0 rfl rfl 1 (by decide) (hts (.fieldLink RX11 21 "OilPush" "now" "LOilPush$State;") (by decide +kernel)) (fun _ h => h) rfl dX11_store_75 ?_
      refine va_get (D := g.1) (ci := 7) (v := .ref ns) (C := RX7) (T := TX7) (N := 5) hx hb hts hi_X11_store_X7 hown hK hP 1 rfl rfl 3 (by decide) (hts (.fieldLink RX11 155 "OilPush$State" "store" "LOilPush$Store;") (by decide +kernel)) (fun _ h => h) rfl dX11_store_78 ?_
      refine lv_iload_n hx hb dX11_store_81 rfl (lv_at hl 3 rfl) ?_
      refine va_put (D := g.1) (ci := 8) (v := .int x3) (ty := .int) (C := RX8) (T := TX8) (N := 4) hx hb hts hi_X11_store_X8 tyX8 tyX8_ok nmX8 hown hK hP hD hS 2 rfl rfl 2 (by decide) (hts (.fieldLink RX11 169 "OilPush$Store" "stiff" "I") (by decide +kernel)) (fun _ h => h) rfl (by decide +kernel) rfl rfl (Nat.le_of_ble_eq_true rfl) dX11_store_82 (fun H locs hP hD hS => ?_)
      have hP : va_P g.1 vwCl [(h0, .inr (11, [.ref a0, .ref a1, .ref a2, .ref a3, .ref a4, .ref a5, .ref a6, .ref a7, .ref a8, .ref a9, .ref a10, .int 0, .int 0, .int 0, .int 0])), (a1, .inr (7, [.ref no, .ref nv, .ref nb, .ref ns, .int 0])), (ns, .inr (8, [.int x1, .int x2, .int x3, .int 0]))] H := hP
      have hD : va_D A [(h0, .inr (11, [.ref a0, .ref a1, .ref a2, .ref a3, .ref a4, .ref a5, .ref a6, .ref a7, .ref a8, .ref a9, .ref a10, .int 0, .int 0, .int 0, .int 0])), (a1, .inr (7, [.ref no, .ref nv, .ref nb, .ref ns, .int 0])), (ns, .inr (8, [.int x1, .int x2, .int x3, .int 0]))] := hD
      refine lv_iconst (v := 1) hx hb dX11_store_85 (by decide) ?_
      exact retI C hS () (by unfold r_x_store; rw [if_neg c1, if_neg c2, if_neg c3, if_pos c4]) (hP.pick [] rfl) (hD.sub [] rfl rfl) (Nat.le_of_ble_eq_true rfl) (Nat.le_of_ble_eq_true rfl) dX11_store_86
    refine lv_bipush (v := -3) hx hb dX11_store_49 (by decide) ?_
    exact retI C hS () (by unfold r_x_store; rw [if_neg c1, if_neg c2, if_neg c3, if_neg c4]) (hP.pick [] rfl) (hD.sub [] rfl rfl) (Nat.le_of_ble_eq_true rfl) (Nat.le_of_ble_eq_true rfl) dX11_store_51
  refine lv_bipush (v := -2) hx hb dX11_store_32 (by decide) ?_
  exact retI C hS () (by unfold r_x_store; rw [if_neg c1, if_neg c2, if_pos c3]) (hP.pick [] rfl) (hD.sub [] rfl rfl) (Nat.le_of_ble_eq_true rfl) (Nat.le_of_ble_eq_true rfl) dX11_store_34
theorem hi_X11_gauge_X11 : ∀ w ∈ wsX110, w ∈ wsX11_gauge := fun w h => List.mem_cons_of_mem _ (List.mem_append_left _ (List.mem_append_right _ h))
def r_x_gauge (what : Int32) : Int32 := (if (r_c_within what 0 3) = 0 then (-2) else (-3))
set_option maxRecDepth 100000 in
set_option maxHeartbeats 4000000 in
theorem x_gauge (l : Launch) (g : Gt) (h0 : Nat) (a0 : Nat) (a1 : Nat) (a2 : Nat) (a3 : Nat) (a4 : Nat) (a5 : Nat) (a6 : Nat) (a7 : Nat) (a8 : Nat) (a9 : Nat) (a10 : Nat) (what : Int32)  : Ctr l g yX11_gauge wsX11_gauge ({ frames := 1, cells := 0, slots := 0, locals := 22 } : Room) [.ref h0, .int what] [(h0, .inr (11, [.ref a0, .ref a1, .ref a2, .ref a3, .ref a4, .ref a5, .ref a6, .ref a7, .ref a8, .ref a9, .ref a10, .int 0, .int 0, .int 0, .int 0]))] (fun A => QI g A (fun r (_ : Unit) => r = (r_x_gauge what)) (fun _u : Unit => [])) := by
  refine Ctr.of (cc := cX11_gauge) (maxL := 2) (ret := (some .int)) (by decide) rfl (Nat.le_of_ble_eq_true rfl) ?_
  intro p e s m below meth c A ls H C hP hD hA hS hl
  obtain ⟨hx, hb, hr, hts, hown, hlocks, hml, hin, hKN⟩ := id C
  have hK := hKN.1
  have hN := hKN.2
  have F : CallFix p m c cX11_gauge 2 s _ wsX11_gauge yX11_gauge.cls := ⟨hx, hb, hml, hown, hts⟩
  have hl : lv_has ls 2 [(0, .ref h0), (1, .int what)] := hl
  refine lv_iload_n hx hb dX11_gauge_0 rfl (lv_at hl 1 rfl) ?_
  refine lv_iconst (v := 0) hx hb dX11_gauge_1 (by decide) ?_
  refine lv_iconst (v := 3) hx hb dX11_gauge_2 (by decide) ?_
  refine pureIS (As := [.int what, .int 0, .int 3]) (rest := []) F (c_within l what 0 3) 3 gX11_gauge_X11_within rfl (by decide +kernel) rfl rfl ⟨(Nat.le_of_ble_eq_true rfl), (Nat.le_of_ble_eq_true rfl)⟩ (Nat.le_of_ble_eq_true rfl) (Nat.le_of_ble_eq_true rfl) rfl hl.1 rfl (Nat.le_of_ble_eq_true rfl) dX11_gauge_3 ?_
  refine lv_if_ne (tgt := 12) hx hb dX11_gauge_6 (by decide) (fun c1 => ?_) (fun c1 => ?_)
  · refine lv_aload_n hx hb dX11_gauge_12 rfl (lv_at hl 0 rfl) ?_
    refine va_get (D := g.1) (ci := 11) (v := .int 0) (C := RX11) (T := TX11) (N := 15) hx hb hts hi_X11_gauge_X11 hown hK hP 0 rfl rfl 13 (by decide) (hts (.fieldLink RX11 208 "OilPush" "ticked" "Z") (by decide +kernel)) (fun _ h => h) rfl dX11_gauge_13 ?_
    refine lv_if_ne (tgt := 22) hx hb dX11_gauge_16 (by decide) (fun cc0 => absurd cc0 (by decide)) (fun _ => ?_)
    refine lv_bipush (v := -3) hx hb dX11_gauge_19 (by decide) ?_
    exact retI C hS () (by unfold r_x_gauge; rw [if_neg c1]) (hP.pick [] rfl) (hD.sub [] rfl rfl) (Nat.le_of_ble_eq_true rfl) (Nat.le_of_ble_eq_true rfl) dX11_gauge_21
  refine lv_bipush (v := -2) hx hb dX11_gauge_9 (by decide) ?_
  exact retI C hS () (by unfold r_x_gauge; rw [if_pos c1]) (hP.pick [] rfl) (hD.sub [] rfl rfl) (Nat.le_of_ble_eq_true rfl) (Nat.le_of_ble_eq_true rfl) dX11_gauge_11
theorem hi_X11_mover_X1 : ∀ w ∈ wsX10, w ∈ wsX11_mover := fun w h => List.mem_cons_of_mem _ (List.mem_append_right _ h)
theorem hi_X11_mover_X11 : ∀ w ∈ wsX110, w ∈ wsX11_mover := fun w h => List.mem_cons_of_mem _ (List.mem_append_left _ (List.mem_append_right _ h))
set_option maxRecDepth 100000 in
set_option maxHeartbeats 4000000 in
theorem x_mover (l : Launch) (g : Gt) (h0 : Nat) (a0 : Nat) (a1 : Nat) (a2 : Nat) (a3 : Nat) (a4 : Nat) (a5 : Nat) (a6 : Nat) (a7 : Nat) (a8 : Nat) (a9 : Nat) (a10 : Nat) (et : Nat) (el : Nat) (en : Nat) (em : Nat) (ek : Nat) (i : Int32)  : Ctr l g yX11_mover wsX11_mover ({ frames := 1, cells := 0, slots := 0, locals := 22 } : Room) [.ref h0, .int i] [(h0, .inr (11, [.ref a0, .ref a1, .ref a2, .ref a3, .ref a4, .ref a5, .ref a6, .ref a7, .ref a8, .ref a9, .ref a10, .int 0, .int 0, .int 0, .int 0])), (a2, .inr (1, [.ref et, .ref el, .int 0, .ref en, .ref em, .ref ek, .int 0, .int 0, .int 0, .int 0, .long 0, .long 0, .long 0]))] (fun A => QI g A (fun r (_ : Unit) => r = (-1)) (fun _u : Unit => [])) := by
  refine Ctr.of (cc := cX11_mover) (maxL := 2) (ret := (some .int)) (by decide) rfl (Nat.le_of_ble_eq_true rfl) ?_
  intro p e s m below meth c A ls H C hP hD hA hS hl
  obtain ⟨hx, hb, hr, hts, hown, hlocks, hml, hin, hKN⟩ := id C
  have hK := hKN.1
  have hN := hKN.2
  have F : CallFix p m c cX11_mover 2 s _ wsX11_mover yX11_mover.cls := ⟨hx, hb, hml, hown, hts⟩
  have hl : lv_has ls 2 [(0, .ref h0), (1, .int i)] := hl
  refine lv_iload_n hx hb dX11_mover_0 rfl (lv_at hl 1 rfl) ?_
  refine lv_iconst (v := 0) hx hb dX11_mover_1 (by decide) ?_
  refine lv_aload_n hx hb dX11_mover_2 rfl (lv_at hl 0 rfl) ?_
  refine va_get (D := g.1) (ci := 11) (v := .ref a2) (C := RX11) (T := TX11) (N := 15) hx hb hts hi_X11_mover_X11 hown hK hP 0 rfl rfl 2 (by decide) (hts (.fieldLink RX11 28 "OilPush" "engine" "LOilPush$Engine;") (by decide +kernel)) (fun _ h => h) rfl dX11_mover_3 ?_
  refine va_get (D := g.1) (ci := 1) (v := .int 0) (C := RX1) (T := TX1) (N := 13) hx hb hts hi_X11_mover_X1 hown hK hP 1 rfl rfl 6 (by decide) (hts (.fieldLink RX11 221 "OilPush$Engine" "takers" "I") (by decide +kernel)) (fun _ h => h) rfl dX11_mover_6 ?_
  refine lv_iconst (v := 1) hx hb dX11_mover_9 (by decide) ?_
  refine lv_isub hx hb dX11_mover_10 ?_
  refine nx_i (v := (-1)) (by decide) ?_
  refine pureIS (As := [.int i, .int 0, .int (-1)]) (rest := []) F (c_within l i 0 (-1)) 3 gX11_mover_X11_within rfl (by decide +kernel) rfl rfl ⟨(Nat.le_of_ble_eq_true rfl), (Nat.le_of_ble_eq_true rfl)⟩ (Nat.le_of_ble_eq_true rfl) (Nat.le_of_ble_eq_true rfl) rfl hl.1 rfl (Nat.le_of_ble_eq_true rfl) dX11_mover_11 ?_
  refine lv_if_eq (tgt := 31) hx hb dX11_mover_14 (by decide) (fun _ => ?_) (fun cc0 => absurd (within_none i) cc0)
  refine lv_iconst (v := -1) hx hb dX11_mover_31 (by decide) ?_
  exact retI C hS () rfl (hP.pick [] rfl) (hD.sub [] rfl rfl) (Nat.le_of_ble_eq_true rfl) (Nat.le_of_ble_eq_true rfl) dX11_mover_32
theorem hi_X8_pressure_X8 : ∀ w ∈ wsX80, w ∈ wsX8_pressure := fun w h => List.mem_cons_of_mem _ (List.mem_append_right _ h)
set_option maxRecDepth 100000 in
set_option maxHeartbeats 4000000 in
theorem c_pressure (l : Launch) (g : Gt) (ns : Nat)  : Ctr l g yX8_pressure wsX8_pressure ({ frames := 0, cells := 0, slots := 0, locals := 0 } : Room) [.ref ns] [(ns, .inr (8, [.int 0, .int 0, .int 1, .int 0]))] (fun A => QI g A (fun r (_ : Unit) => r = 0) (fun _u : Unit => [(ns, .inr (8, [.int 0, .int 0, .int 1, .int 0]))])) := by
  refine Ctr.of (cc := cX8_pressure) (maxL := 1) (ret := (some .int)) (by decide) rfl (Nat.le_of_ble_eq_true rfl) ?_
  intro p e s m below meth c A ls H C hP hD hA hS hl
  obtain ⟨hx, hb, hr, hts, hown, hlocks, hml, hin, hKN⟩ := id C
  have hK := hKN.1
  have hN := hKN.2
  have F : CallFix p m c cX8_pressure 1 s _ wsX8_pressure yX8_pressure.cls := ⟨hx, hb, hml, hown, hts⟩
  have hl : lv_has ls 1 [(0, .ref ns)] := hl
  refine lv_aload_n hx hb dX8_pressure_0 rfl (lv_at hl 0 rfl) ?_
  refine va_get (D := g.1) (ci := 8) (v := .int 1) (C := RX8) (T := TX8) (N := 4) hx hb hts hi_X8_pressure_X8 hown hK hP 0 rfl rfl 2 (by decide) (hts (.fieldLink RX8 7 "OilPush$Store" "stiff" "I") (by decide +kernel)) (fun _ h => h) rfl dX8_pressure_1 ?_
  refine lv_if_gt (tgt := 14) hx hb dX8_pressure_4 (by decide) (fun _ => ?_) (fun cc0 => absurd cc0 (by decide))
  refine lv_aload_n hx hb dX8_pressure_14 rfl (lv_at hl 0 rfl) ?_
  refine va_get (D := g.1) (ci := 8) (v := .int 0) (C := RX8) (T := TX8) (N := 4) hx hb hts hi_X8_pressure_X8 hown hK hP 0 rfl rfl 1 (by decide) (hts (.fieldLink RX8 13 "OilPush$Store" "first" "I") (by decide +kernel)) (fun _ h => h) rfl dX8_pressure_15 ?_
  refine lv_aload_n hx hb dX8_pressure_18 rfl (lv_at hl 0 rfl) ?_
  refine va_get (D := g.1) (ci := 8) (v := .int 0) (C := RX8) (T := TX8) (N := 4) hx hb hts hi_X8_pressure_X8 hown hK hP 0 rfl rfl 3 (by decide) (hts (.fieldLink RX8 16 "OilPush$Store" "oil" "I") (by decide +kernel)) (fun _ h => h) rfl dX8_pressure_19 ?_
  refine lv_aload_n hx hb dX8_pressure_22 rfl (lv_at hl 0 rfl) ?_
  refine va_get (D := g.1) (ci := 8) (v := .int 1) (C := RX8) (T := TX8) (N := 4) hx hb hts hi_X8_pressure_X8 hown hK hP 0 rfl rfl 2 (by decide) (hts (.fieldLink RX8 7 "OilPush$Store" "stiff" "I") (by decide +kernel)) (fun _ h => h) rfl dX8_pressure_23 ?_
  refine lv_idiv hx hb dX8_pressure_26 (by decide) ?_
  refine nx_i (v := 0) (by decide) ?_
  refine lv_iadd hx hb dX8_pressure_27 ?_
  refine nx_i (v := 0) (by decide) ?_
  exact retI C hS () rfl (hP.pick [0] rfl) (hD.sub [0] rfl rfl) (Nat.le_of_ble_eq_true rfl) (Nat.le_of_ble_eq_true rfl) dX8_pressure_28
theorem hi_X11_sum_X1 : ∀ w ∈ wsX10, w ∈ wsX11_sum := fun w h => List.mem_cons_of_mem _ (List.mem_append_left _ (List.mem_append_left _ (List.mem_append_right _ h)))
theorem hi_X11_sum_X11 : ∀ w ∈ wsX110, w ∈ wsX11_sum := fun w h => List.mem_cons_of_mem _ (List.mem_append_left _ (List.mem_append_left _ (List.mem_append_left _ (List.mem_append_right _ h))))
theorem hi_X11_sum_X7 : ∀ w ∈ wsX70, w ∈ wsX11_sum := fun w h => List.mem_cons_of_mem _ (List.mem_append_left _ (List.mem_append_right _ h))
theorem hi_X11_sum_X8 : ∀ w ∈ wsX80, w ∈ wsX11_sum := fun w h => List.mem_cons_of_mem _ (List.mem_append_right _ h)
def r_x_sum (what : Int32) : Int64 := (if what = 0 then 0 else (if what = 1 then 0 else (if what = 2 then 0 else (if what = 3 then 0 else (if what = 4 then 0 else (-9223372036854775808))))))
set_option maxRecDepth 100000 in
set_option maxHeartbeats 4000000 in
theorem x_sum (l : Launch) (g : Gt) (h0 : Nat) (a0 : Nat) (a1 : Nat) (a2 : Nat) (a3 : Nat) (a4 : Nat) (a5 : Nat) (a6 : Nat) (a7 : Nat) (a8 : Nat) (a9 : Nat) (a10 : Nat) (et : Nat) (el : Nat) (en : Nat) (em : Nat) (ek : Nat) (no : Nat) (nv : Nat) (nb : Nat) (ns : Nat) (what : Int32)  : Ctr l g yX11_sum wsX11_sum ({ frames := 1, cells := 0, slots := 0, locals := 20 } : Room) [.ref h0, .int what] [(h0, .inr (11, [.ref a0, .ref a1, .ref a2, .ref a3, .ref a4, .ref a5, .ref a6, .ref a7, .ref a8, .ref a9, .ref a10, .int 0, .int 0, .int 0, .int 0])), (a2, .inr (1, [.ref et, .ref el, .int 0, .ref en, .ref em, .ref ek, .int 0, .int 0, .int 0, .int 0, .long 0, .long 0, .long 0])), (a1, .inr (7, [.ref no, .ref nv, .ref nb, .ref ns, .int 0])), (ns, .inr (8, [.int 0, .int 0, .int 1, .int 0]))] (fun A => QL g A (fun r (_ : Unit) => r = (r_x_sum what)) (fun _u : Unit => [])) := by
  refine Ctr.of (cc := cX11_sum) (maxL := 2) (ret := (some .long)) (by decide) rfl (Nat.le_of_ble_eq_true rfl) ?_
  intro p e s m below meth c A ls H C hP hD hA hS hl
  obtain ⟨hx, hb, hr, hts, hown, hlocks, hml, hin, hKN⟩ := id C
  have hK := hKN.1
  have hN := hKN.2
  have F : CallFix p m c cX11_sum 2 s _ wsX11_sum yX11_sum.cls := ⟨hx, hb, hml, hown, hts⟩
  have hl : lv_has ls 2 [(0, .ref h0), (1, .int what)] := hl
  refine lv_iload_n hx hb dX11_sum_0 rfl (lv_at hl 1 rfl) ?_
  by_cases w1 : what = 0
  · refine lv_tableIn (tgt := 36) (off := 35) hx hb dX11_sum_1 (by rw [w1]; decide) (by rw [w1]; decide) (by rw [w1]; rfl) (by decide) ?_
    refine lv_aload_n hx hb dX11_sum_36 rfl (lv_at hl 0 rfl) ?_
    refine va_get (D := g.1) (ci := 11) (v := .ref a2) (C := RX11) (T := TX11) (N := 15) hx hb hts hi_X11_sum_X11 hown hK hP 0 rfl rfl 2 (by decide) (hts (.fieldLink RX11 28 "OilPush" "engine" "LOilPush$Engine;") (by decide +kernel)) (fun _ h => h) rfl dX11_sum_37 ?_
    refine va_get (D := g.1) (ci := 1) (v := .long 0) (C := RX1) (T := TX1) (N := 13) hx hb hts hi_X11_sum_X1 hown hK hP 1 rfl rfl 10 (by decide) (hts (.fieldLink RX11 227 "OilPush$Engine" "heat" "J") (by decide +kernel)) (fun _ h => h) rfl dX11_sum_40 ?_
    exact retL C hS () (by unfold r_x_sum; rw [if_pos w1]) (hP.pick [] rfl) (hD.sub [] rfl rfl) (Nat.le_of_ble_eq_true rfl) (Nat.le_of_ble_eq_true rfl) dX11_sum_43
  by_cases w2 : what = 1
  · refine lv_tableIn (tgt := 44) (off := 43) hx hb dX11_sum_1 (by rw [w2]; decide) (by rw [w2]; decide) (by rw [w2]; rfl) (by decide) ?_
    refine lv_aload_n hx hb dX11_sum_44 rfl (lv_at hl 0 rfl) ?_
    refine va_get (D := g.1) (ci := 11) (v := .ref a2) (C := RX11) (T := TX11) (N := 15) hx hb hts hi_X11_sum_X11 hown hK hP 0 rfl rfl 2 (by decide) (hts (.fieldLink RX11 28 "OilPush" "engine" "LOilPush$Engine;") (by decide +kernel)) (fun _ h => h) rfl dX11_sum_45 ?_
    refine va_get (D := g.1) (ci := 1) (v := .long 0) (C := RX1) (T := TX1) (N := 13) hx hb hts hi_X11_sum_X1 hown hK hP 1 rfl rfl 11 (by decide) (hts (.fieldLink RX11 231 "OilPush$Engine" "work" "J") (by decide +kernel)) (fun _ h => h) rfl dX11_sum_48 ?_
    exact retL C hS () (by unfold r_x_sum; rw [if_neg w1, if_pos w2]) (hP.pick [] rfl) (hD.sub [] rfl rfl) (Nat.le_of_ble_eq_true rfl) (Nat.le_of_ble_eq_true rfl) dX11_sum_51
  by_cases w3 : what = 2
  · refine lv_tableIn (tgt := 52) (off := 51) hx hb dX11_sum_1 (by rw [w3]; decide) (by rw [w3]; decide) (by rw [w3]; rfl) (by decide) ?_
    refine lv_aload_n hx hb dX11_sum_52 rfl (lv_at hl 0 rfl) ?_
    refine va_get (D := g.1) (ci := 11) (v := .ref a2) (C := RX11) (T := TX11) (N := 15) hx hb hts hi_X11_sum_X11 hown hK hP 0 rfl rfl 2 (by decide) (hts (.fieldLink RX11 28 "OilPush" "engine" "LOilPush$Engine;") (by decide +kernel)) (fun _ h => h) rfl dX11_sum_53 ?_
    refine va_get (D := g.1) (ci := 1) (v := .long 0) (C := RX1) (T := TX1) (N := 13) hx hb hts hi_X11_sum_X1 hown hK hP 1 rfl rfl 12 (by decide) (hts (.fieldLink RX11 234 "OilPush$Engine" "given" "J") (by decide +kernel)) (fun _ h => h) rfl dX11_sum_56 ?_
    exact retL C hS () (by unfold r_x_sum; rw [if_neg w1, if_neg w2, if_pos w3]) (hP.pick [] rfl) (hD.sub [] rfl rfl) (Nat.le_of_ble_eq_true rfl) (Nat.le_of_ble_eq_true rfl) dX11_sum_59
  by_cases w4 : what = 3
  · refine lv_tableIn (tgt := 60) (off := 59) hx hb dX11_sum_1 (by rw [w4]; decide) (by rw [w4]; decide) (by rw [w4]; rfl) (by decide) ?_
    refine lv_aload_n hx hb dX11_sum_60 rfl (lv_at hl 0 rfl) ?_
    refine va_get (D := g.1) (ci := 11) (v := .ref a1) (C := RX11) (T := TX11) (N := 15) hx hb hts hi_X11_sum_X11 hown hK hP 0 rfl rfl 1 (by decide) (hts (.fieldLink RX11 21 "OilPush" "now" "LOilPush$State;") (by decide +kernel)) (fun _ h => h) rfl dX11_sum_61 ?_
    refine va_get (D := g.1) (ci := 7) (v := .ref ns) (C := RX7) (T := TX7) (N := 5) hx hb hts hi_X11_sum_X7 hown hK hP 2 rfl rfl 3 (by decide) (hts (.fieldLink RX11 155 "OilPush$State" "store" "LOilPush$Store;") (by decide +kernel)) (fun _ h => h) rfl dX11_sum_64 ?_
    refine va_get (D := g.1) (ci := 8) (v := .int 0) (C := RX8) (T := TX8) (N := 4) hx hb hts hi_X11_sum_X8 hown hK hP 3 rfl rfl 3 (by decide) (hts (.fieldLink RX11 159 "OilPush$Store" "oil" "I") (by decide +kernel)) (fun _ h => h) rfl dX11_sum_67 ?_
    refine lv_i2l (v := 0) hx hb dX11_sum_70 (by decide) ?_
    exact retL C hS () (by unfold r_x_sum; rw [if_neg w1, if_neg w2, if_neg w3, if_pos w4]) (hP.pick [] rfl) (hD.sub [] rfl rfl) (Nat.le_of_ble_eq_true rfl) (Nat.le_of_ble_eq_true rfl) dX11_sum_71
  by_cases w5 : what = 4
  · refine lv_tableIn (tgt := 72) (off := 71) hx hb dX11_sum_1 (by rw [w5]; decide) (by rw [w5]; decide) (by rw [w5]; rfl) (by decide) ?_
    refine lv_aload_n hx hb dX11_sum_72 rfl (lv_at hl 0 rfl) ?_
    refine va_get (D := g.1) (ci := 11) (v := .ref a1) (C := RX11) (T := TX11) (N := 15) hx hb hts hi_X11_sum_X11 hown hK hP 0 rfl rfl 1 (by decide) (hts (.fieldLink RX11 21 "OilPush" "now" "LOilPush$State;") (by decide +kernel)) (fun _ h => h) rfl dX11_sum_73 ?_
    refine va_get (D := g.1) (ci := 7) (v := .ref ns) (C := RX7) (T := TX7) (N := 5) hx hb hts hi_X11_sum_X7 hown hK hP 2 rfl rfl 3 (by decide) (hts (.fieldLink RX11 155 "OilPush$State" "store" "LOilPush$Store;") (by decide +kernel)) (fun _ h => h) rfl dX11_sum_76 ?_
    refine callIV (As := []) (rest := []) (wr := [(h0, .inr (11, [.ref a0, .ref a1, .ref a2, .ref a3, .ref a4, .ref a5, .ref a6, .ref a7, .ref a8, .ref a9, .ref a10, .int 0, .int 0, .int 0, .int 0])), (a2, .inr (1, [.ref et, .ref el, .int 0, .ref en, .ref em, .ref ek, .int 0, .int 0, .int 0, .int 0, .long 0, .long 0, .long 0])), (a1, .inr (7, [.ref no, .ref nv, .ref nb, .ref ns, .int 0]))]) (Cn := RX8) C (c_pressure l g ns) 0 gX11_sum_X8_pressure rfl (by decide +kernel) ⟨(Nat.le_of_ble_eq_true rfl), (Nat.le_of_ble_eq_true rfl)⟩ [3] [0, 1, 2] hP hD hA hS rfl rfl rfl rfl (by decide) (k := 3) (ci := 8) rfl rfl rfl rfl hl.1 rfl (Nat.le_of_ble_eq_true rfl) dX11_sum_79 ⟨(Nat.le_of_ble_eq_true rfl), (Nat.le_of_ble_eq_true rfl)⟩ (fun r _u H locs hw hP hD hS => ?_)
    have hP : va_P g.1 vwCl [(h0, .inr (11, [.ref a0, .ref a1, .ref a2, .ref a3, .ref a4, .ref a5, .ref a6, .ref a7, .ref a8, .ref a9, .ref a10, .int 0, .int 0, .int 0, .int 0])), (a2, .inr (1, [.ref et, .ref el, .int 0, .ref en, .ref em, .ref ek, .int 0, .int 0, .int 0, .int 0, .long 0, .long 0, .long 0])), (a1, .inr (7, [.ref no, .ref nv, .ref nb, .ref ns, .int 0])), (ns, .inr (8, [.int 0, .int 0, .int 1, .int 0]))] H := hP
    have hD : va_D A [(h0, .inr (11, [.ref a0, .ref a1, .ref a2, .ref a3, .ref a4, .ref a5, .ref a6, .ref a7, .ref a8, .ref a9, .ref a10, .int 0, .int 0, .int 0, .int 0])), (a2, .inr (1, [.ref et, .ref el, .int 0, .ref en, .ref em, .ref ek, .int 0, .int 0, .int 0, .int 0, .long 0, .long 0, .long 0])), (a1, .inr (7, [.ref no, .ref nv, .ref nb, .ref ns, .int 0])), (ns, .inr (8, [.int 0, .int 0, .int 1, .int 0]))] := hD
    subst hw
    refine lv_i2l (v := 0) hx hb dX11_sum_82 (by decide) ?_
    exact retL C hS () (by unfold r_x_sum; rw [if_neg w1, if_neg w2, if_neg w3, if_neg w4, if_pos w5]) (hP.pick [] rfl) (hD.sub [] rfl rfl) (Nat.le_of_ble_eq_true rfl) (Nat.le_of_ble_eq_true rfl) dX11_sum_83
  refine lv_tableOut (tgt := 84) hx hb dX11_sum_1 (sw4 w1 w2 w3 w4 w5) (by decide) ?_
  refine lv_ldc2 (v := -9223372036854775808) hx hb hown (hts (.constantLong RX11 239 (-9223372036854775808)) (by decide +kernel)) dX11_sum_84 ?_
  exact retL C hS () (by unfold r_x_sum; rw [if_neg w1, if_neg w2, if_neg w3, if_neg w4, if_neg w5]) (hP.pick [] rfl) (hD.sub [] rfl rfl) (Nat.le_of_ble_eq_true rfl) (Nat.le_of_ble_eq_true rfl) dX11_sum_87
theorem hi_X11_waits_X11 : ∀ w ∈ wsX110, w ∈ wsX11_waits := fun w h => List.mem_cons_of_mem _ (List.mem_append_left _ (List.mem_append_right _ h))
theorem hi_X11_waits_X7 : ∀ w ∈ wsX70, w ∈ wsX11_waits := fun w h => List.mem_cons_of_mem _ (List.mem_append_right _ h)
set_option maxRecDepth 100000 in
set_option maxHeartbeats 4000000 in
theorem x_waits (l : Launch) (g : Gt) (h0 : Nat) (a0 : Nat) (a1 : Nat) (a2 : Nat) (a3 : Nat) (a4 : Nat) (a5 : Nat) (a6 : Nat) (a7 : Nat) (a8 : Nat) (a9 : Nat) (a10 : Nat) (no : Nat) (nv : Nat) (nb : Nat) (ns : Nat)  : Ctr l g yX11_waits wsX11_waits ({ frames := 0, cells := 0, slots := 0, locals := 0 } : Room) [.ref h0] [(h0, .inr (11, [.ref a0, .ref a1, .ref a2, .ref a3, .ref a4, .ref a5, .ref a6, .ref a7, .ref a8, .ref a9, .ref a10, .int 0, .int 0, .int 0, .int 0])), (a1, .inr (7, [.ref no, .ref nv, .ref nb, .ref ns, .int 0]))] (fun A => QI g A (fun r (_ : Unit) => r = 0) (fun _u : Unit => [])) := by
  refine Ctr.of (cc := cX11_waits) (maxL := 1) (ret := (some .int)) (by decide) rfl (Nat.le_of_ble_eq_true rfl) ?_
  intro p e s m below meth c A ls H C hP hD hA hS hl
  obtain ⟨hx, hb, hr, hts, hown, hlocks, hml, hin, hKN⟩ := id C
  have hK := hKN.1
  have hN := hKN.2
  have F : CallFix p m c cX11_waits 1 s _ wsX11_waits yX11_waits.cls := ⟨hx, hb, hml, hown, hts⟩
  have hl : lv_has ls 1 [(0, .ref h0)] := hl
  refine lv_aload_n hx hb dX11_waits_0 rfl (lv_at hl 0 rfl) ?_
  refine va_get (D := g.1) (ci := 11) (v := .ref a1) (C := RX11) (T := TX11) (N := 15) hx hb hts hi_X11_waits_X11 hown hK hP 0 rfl rfl 1 (by decide) (hts (.fieldLink RX11 21 "OilPush" "now" "LOilPush$State;") (by decide +kernel)) (fun _ h => h) rfl dX11_waits_1 ?_
  refine va_get (D := g.1) (ci := 7) (v := .int 0) (C := RX7) (T := TX7) (N := 5) hx hb hts hi_X11_waits_X7 hown hK hP 1 rfl rfl 4 (by decide) (hts (.fieldLink RX11 245 "OilPush$State" "waits" "I") (by decide +kernel)) (fun _ h => h) rfl dX11_waits_4 ?_
  exact retI C hS () rfl (hP.pick [] rfl) (hD.sub [] rfl rfl) (Nat.le_of_ble_eq_true rfl) (Nat.le_of_ble_eq_true rfl) dX11_waits_7
theorem hi_X8_become_X8 : ∀ w ∈ wsX80, w ∈ wsX8_become := fun w h => List.mem_cons_of_mem _ (List.mem_append_right _ h)
set_option maxRecDepth 100000 in
set_option maxHeartbeats 4000000 in
theorem c_sbecome (l : Launch) (g : Gt) (ms : Nat) (ns : Nat)  : Ctr l g yX8_become wsX8_become ({ frames := 0, cells := 0, slots := 0, locals := 0 } : Room) [.ref ms, .ref ns] [(ms, .inr (8, [.int 0, .int 0, .int 1, .int 0])), (ns, .inr (8, [.int 0, .int 0, .int 1, .int 0]))] (fun A => QV g A (fun _ : Unit => () = ()) (fun _u : Unit => [(ms, .inr (8, [.int 0, .int 0, .int 1, .int 0])), (ns, .inr (8, [.int 0, .int 0, .int 1, .int 0]))])) := by
  refine Ctr.of (cc := cX8_become) (maxL := 2) (ret := none) (by decide) rfl (Nat.le_of_ble_eq_true rfl) ?_
  intro p e s m below meth c A ls H C hP hD hA hS hl
  obtain ⟨hx, hb, hr, hts, hown, hlocks, hml, hin, hKN⟩ := id C
  have hK := hKN.1
  have hN := hKN.2
  have F : CallFix p m c cX8_become 2 s _ wsX8_become yX8_become.cls := ⟨hx, hb, hml, hown, hts⟩
  have hl : lv_has ls 2 [(0, .ref ms), (1, .ref ns)] := hl
  refine lv_aload_n hx hb dX8_become_0 rfl (lv_at hl 0 rfl) ?_
  refine lv_aload_n hx hb dX8_become_1 rfl (lv_at hl 1 rfl) ?_
  refine va_get (D := g.1) (ci := 8) (v := .int 0) (C := RX8) (T := TX8) (N := 4) hx hb hts hi_X8_become_X8 hown hK hP 1 rfl rfl 0 (by decide) (hts (.fieldLink RX8 19 "OilPush$Store" "cap" "I") (by decide +kernel)) (fun _ h => h) rfl dX8_become_2 ?_
  refine va_put (D := g.1) (ci := 8) (v := .int 0) (ty := .int) (C := RX8) (T := TX8) (N := 4) hx hb hts hi_X8_become_X8 tyX8 tyX8_ok nmX8 hown hK hP hD hS 0 rfl rfl 0 (by decide) (hts (.fieldLink RX8 19 "OilPush$Store" "cap" "I") (by decide +kernel)) (fun _ h => h) rfl (by decide +kernel) rfl rfl (Nat.le_of_ble_eq_true rfl) dX8_become_5 (fun H locs hP hD hS => ?_)
  have hP : va_P g.1 vwCl [(ms, .inr (8, [.int 0, .int 0, .int 1, .int 0])), (ns, .inr (8, [.int 0, .int 0, .int 1, .int 0]))] H := hP
  have hD : va_D A [(ms, .inr (8, [.int 0, .int 0, .int 1, .int 0])), (ns, .inr (8, [.int 0, .int 0, .int 1, .int 0]))] := hD
  refine lv_aload_n hx hb dX8_become_8 rfl (lv_at hl 0 rfl) ?_
  refine lv_aload_n hx hb dX8_become_9 rfl (lv_at hl 1 rfl) ?_
  refine va_get (D := g.1) (ci := 8) (v := .int 0) (C := RX8) (T := TX8) (N := 4) hx hb hts hi_X8_become_X8 hown hK hP 1 rfl rfl 1 (by decide) (hts (.fieldLink RX8 13 "OilPush$Store" "first" "I") (by decide +kernel)) (fun _ h => h) rfl dX8_become_10 ?_
  refine va_put (D := g.1) (ci := 8) (v := .int 0) (ty := .int) (C := RX8) (T := TX8) (N := 4) hx hb hts hi_X8_become_X8 tyX8 tyX8_ok nmX8 hown hK hP hD hS 0 rfl rfl 1 (by decide) (hts (.fieldLink RX8 13 "OilPush$Store" "first" "I") (by decide +kernel)) (fun _ h => h) rfl (by decide +kernel) rfl rfl (Nat.le_of_ble_eq_true rfl) dX8_become_13 (fun H locs hP hD hS => ?_)
  have hP : va_P g.1 vwCl [(ms, .inr (8, [.int 0, .int 0, .int 1, .int 0])), (ns, .inr (8, [.int 0, .int 0, .int 1, .int 0]))] H := hP
  have hD : va_D A [(ms, .inr (8, [.int 0, .int 0, .int 1, .int 0])), (ns, .inr (8, [.int 0, .int 0, .int 1, .int 0]))] := hD
  refine lv_aload_n hx hb dX8_become_16 rfl (lv_at hl 0 rfl) ?_
  refine lv_aload_n hx hb dX8_become_17 rfl (lv_at hl 1 rfl) ?_
  refine va_get (D := g.1) (ci := 8) (v := .int 1) (C := RX8) (T := TX8) (N := 4) hx hb hts hi_X8_become_X8 hown hK hP 1 rfl rfl 2 (by decide) (hts (.fieldLink RX8 7 "OilPush$Store" "stiff" "I") (by decide +kernel)) (fun _ h => h) rfl dX8_become_18 ?_
  refine va_put (D := g.1) (ci := 8) (v := .int 1) (ty := .int) (C := RX8) (T := TX8) (N := 4) hx hb hts hi_X8_become_X8 tyX8 tyX8_ok nmX8 hown hK hP hD hS 0 rfl rfl 2 (by decide) (hts (.fieldLink RX8 7 "OilPush$Store" "stiff" "I") (by decide +kernel)) (fun _ h => h) rfl (by decide +kernel) rfl rfl (Nat.le_of_ble_eq_true rfl) dX8_become_21 (fun H locs hP hD hS => ?_)
  have hP : va_P g.1 vwCl [(ms, .inr (8, [.int 0, .int 0, .int 1, .int 0])), (ns, .inr (8, [.int 0, .int 0, .int 1, .int 0]))] H := hP
  have hD : va_D A [(ms, .inr (8, [.int 0, .int 0, .int 1, .int 0])), (ns, .inr (8, [.int 0, .int 0, .int 1, .int 0]))] := hD
  refine lv_aload_n hx hb dX8_become_24 rfl (lv_at hl 0 rfl) ?_
  refine lv_aload_n hx hb dX8_become_25 rfl (lv_at hl 1 rfl) ?_
  refine va_get (D := g.1) (ci := 8) (v := .int 0) (C := RX8) (T := TX8) (N := 4) hx hb hts hi_X8_become_X8 hown hK hP 1 rfl rfl 3 (by decide) (hts (.fieldLink RX8 16 "OilPush$Store" "oil" "I") (by decide +kernel)) (fun _ h => h) rfl dX8_become_26 ?_
  refine va_put (D := g.1) (ci := 8) (v := .int 0) (ty := .int) (C := RX8) (T := TX8) (N := 4) hx hb hts hi_X8_become_X8 tyX8 tyX8_ok nmX8 hown hK hP hD hS 0 rfl rfl 3 (by decide) (hts (.fieldLink RX8 16 "OilPush$Store" "oil" "I") (by decide +kernel)) (fun _ h => h) rfl (by decide +kernel) rfl rfl (Nat.le_of_ble_eq_true rfl) dX8_become_29 (fun H locs hP hD hS => ?_)
  have hP : va_P g.1 vwCl [(ms, .inr (8, [.int 0, .int 0, .int 1, .int 0])), (ns, .inr (8, [.int 0, .int 0, .int 1, .int 0]))] H := hP
  have hD : va_D A [(ms, .inr (8, [.int 0, .int 0, .int 1, .int 0])), (ns, .inr (8, [.int 0, .int 0, .int 1, .int 0]))] := hD
  exact retV C hS () rfl (hP.pick [0, 1] rfl) (hD.sub [0, 1] rfl rfl) (Nat.le_of_ble_eq_true rfl) (Nat.le_of_ble_eq_true rfl) dX8_become_32
theorem hi_X7_become_X7 : ∀ w ∈ wsX70, w ∈ wsX7_become := fun w h => List.mem_cons_of_mem _ (List.mem_append_left _ (List.mem_append_right _ h))
set_option maxRecDepth 100000 in
set_option maxHeartbeats 4000000 in
theorem c_become (l : Launch) (g : Gt) (a4 : Nat) (mo : Nat) (mv : Nat) (mb : Nat) (ms : Nat) (a1 : Nat) (no : Nat) (nv : Nat) (nb : Nat) (ns : Nat)  : Ctr l g yX7_become wsX7_become ({ frames := 1, cells := 0, slots := 0, locals := 22 } : Room) [.ref a4, .ref a1] [(a4, .inr (7, [.ref mo, .ref mv, .ref mb, .ref ms, .int 0])), (mo, .inl (g.2 0, 6, .inl z0)), (mv, .inl (g.2 0, 6, .inl z0)), (mb, .inl (g.2 0, 6, .inl z0)), (ms, .inr (8, [.int 0, .int 0, .int 1, .int 0])), (a1, .inr (7, [.ref no, .ref nv, .ref nb, .ref ns, .int 0])), (no, .inl (g.2 0, 6, .inl z0)), (nv, .inl (g.2 0, 6, .inl z0)), (nb, .inl (g.2 0, 6, .inl z0)), (ns, .inr (8, [.int 0, .int 0, .int 1, .int 0]))] (fun A => QV g A (fun _ : Unit => () = ()) (fun _u : Unit => [])) := by
  refine Ctr.of (cc := cX7_become) (maxL := 3) (ret := none) (by decide) rfl (Nat.le_of_ble_eq_true rfl) ?_
  intro p e s m below meth c A ls H C hP hD hA hS hl
  obtain ⟨hx, hb, hr, hts, hown, hlocks, hml, hin, hKN⟩ := id C
  have hK := hKN.1
  have hN := hKN.2
  have F : CallFix p m c cX7_become 3 s _ wsX7_become yX7_become.cls := ⟨hx, hb, hml, hown, hts⟩
  have hl : lv_has ls 3 [(0, .ref a4), (1, .ref a1)] := hl
  refine lv_iconst (v := 0) hx hb dX7_become_0 (by decide) ?_
  refine lv_istore_n (lv' := [(2, .int 0), (0, .ref a4), (1, .ref a1)]) hx hb dX7_become_1 rfl hl (by decide) rfl (fun ls hl => ?_)
  refine W.loop (α := Int32) (P := fun (ix : Int32) ls H locs => 0 ≤ ix.toInt ∧ ix.toInt ≤ (6 : Int32).toInt ∧ lv_has ls 3 [(2, .int ix), (0, .ref a4), (1, .ref a1)] ∧ va_P g.1 vwCl [(a4, .inr (7, [.ref mo, .ref mv, .ref mb, .ref ms, .int 0])), (mo, .inl (g.2 0, 6, .inl z0)), (mv, .inl (g.2 0, 6, .inl z0)), (mb, .inl (g.2 0, 6, .inl z0)), (ms, .inr (8, [.int 0, .int 0, .int 1, .int 0])), (a1, .inr (7, [.ref no, .ref nv, .ref nb, .ref ns, .int 0])), (no, .inl (g.2 0, 6, .inl z0)), (nv, .inl (g.2 0, 6, .inl z0)), (nb, .inl (g.2 0, 6, .inl z0)), (ns, .inr (8, [.int 0, .int 0, .int 1, .int 0]))] H ∧ va_S A s.heap H locs) (μ := fun (ix : Int32) => ((6 : Int32).toInt - ix.toInt).toNat) 0 ⟨(by decide), (by decide), hl, hP, hS⟩ (fun ix ls H locs hh ih => ?_)
  obtain ⟨hi0, hib, hl, hP, hS⟩ := hh
  refine lv_iload_n hx hb dX7_become_2 rfl (lv_at hl 0 rfl) ?_
  refine lv_bipush (v := 6) hx hb dX7_become_3 (by decide) ?_
  refine lv_icmp_ge (tgt := 62) hx hb dX7_become_5 (by decide) (fun c1 => ?_) (fun c1 => ?_)
  · refine lv_aload_n hx hb dX7_become_62 rfl (lv_at hl 1 rfl) ?_
    refine va_get (D := g.1) (ci := 7) (v := .ref ms) (C := RX7) (T := TX7) (N := 5) hx hb hts hi_X7_become_X7 hown hK hP 0 rfl rfl 3 (by decide) (hts (.fieldLink RX7 24 "OilPush$State" "store" "LOilPush$Store;") (by decide +kernel)) (fun _ h => h) rfl dX7_become_63 ?_
    refine lv_aload_n hx hb dX7_become_66 rfl (lv_at hl 2 rfl) ?_
    refine va_get (D := g.1) (ci := 7) (v := .ref ns) (C := RX7) (T := TX7) (N := 5) hx hb hts hi_X7_become_X7 hown hK hP 5 rfl rfl 3 (by decide) (hts (.fieldLink RX7 24 "OilPush$State" "store" "LOilPush$Store;") (by decide +kernel)) (fun _ h => h) rfl dX7_become_67 ?_
    refine callVV (As := [.ref ns]) (rest := []) (wr := [(a4, .inr (7, [.ref mo, .ref mv, .ref mb, .ref ms, .int 0])), (mo, .inl (g.2 0, 6, .inl z0)), (mv, .inl (g.2 0, 6, .inl z0)), (mb, .inl (g.2 0, 6, .inl z0)), (a1, .inr (7, [.ref no, .ref nv, .ref nb, .ref ns, .int 0])), (no, .inl (g.2 0, 6, .inl z0)), (nv, .inl (g.2 0, 6, .inl z0)), (nb, .inl (g.2 0, 6, .inl z0))]) (Cn := RX8) C (c_sbecome l g ms ns) 1 gX7_become_X8_become rfl (by decide +kernel) ⟨(Nat.le_of_ble_eq_true rfl), (Nat.le_of_ble_eq_true rfl)⟩ [4, 9] [0, 1, 2, 3, 5, 6, 7, 8] hP hD hA hS rfl rfl rfl rfl (by decide) (k := 4) (ci := 8) rfl rfl rfl rfl hl.1 rfl (Nat.le_of_ble_eq_true rfl) dX7_become_70 ⟨(Nat.le_of_ble_eq_true rfl), (Nat.le_of_ble_eq_true rfl)⟩ (fun _u H locs hw hP hD hS => ?_)
    have hP : va_P g.1 vwCl [(a4, .inr (7, [.ref mo, .ref mv, .ref mb, .ref ms, .int 0])), (mo, .inl (g.2 0, 6, .inl z0)), (mv, .inl (g.2 0, 6, .inl z0)), (mb, .inl (g.2 0, 6, .inl z0)), (a1, .inr (7, [.ref no, .ref nv, .ref nb, .ref ns, .int 0])), (no, .inl (g.2 0, 6, .inl z0)), (nv, .inl (g.2 0, 6, .inl z0)), (nb, .inl (g.2 0, 6, .inl z0)), (ms, .inr (8, [.int 0, .int 0, .int 1, .int 0])), (ns, .inr (8, [.int 0, .int 0, .int 1, .int 0]))] H := hP
    have hD : va_D A [(a4, .inr (7, [.ref mo, .ref mv, .ref mb, .ref ms, .int 0])), (mo, .inl (g.2 0, 6, .inl z0)), (mv, .inl (g.2 0, 6, .inl z0)), (mb, .inl (g.2 0, 6, .inl z0)), (a1, .inr (7, [.ref no, .ref nv, .ref nb, .ref ns, .int 0])), (no, .inl (g.2 0, 6, .inl z0)), (nv, .inl (g.2 0, 6, .inl z0)), (nb, .inl (g.2 0, 6, .inl z0)), (ms, .inr (8, [.int 0, .int 0, .int 1, .int 0])), (ns, .inr (8, [.int 0, .int 0, .int 1, .int 0]))] := hD
    refine lv_aload_n hx hb dX7_become_73 rfl (lv_at hl 1 rfl) ?_
    refine lv_aload_n hx hb dX7_become_74 rfl (lv_at hl 2 rfl) ?_
    refine va_get (D := g.1) (ci := 7) (v := .int 0) (C := RX7) (T := TX7) (N := 5) hx hb hts hi_X7_become_X7 hown hK hP 4 rfl rfl 4 (by decide) (hts (.fieldLink RX7 40 "OilPush$State" "waits" "I") (by decide +kernel)) (fun _ h => h) rfl dX7_become_75 ?_
    refine va_put (D := g.1) (ci := 7) (v := .int 0) (ty := .int) (C := RX7) (T := TX7) (N := 5) hx hb hts hi_X7_become_X7 tyX7 tyX7_ok nmX7 hown hK hP hD hS 0 rfl rfl 4 (by decide) (hts (.fieldLink RX7 40 "OilPush$State" "waits" "I") (by decide +kernel)) (fun _ h => h) rfl (by decide +kernel) rfl rfl (Nat.le_of_ble_eq_true rfl) dX7_become_78 (fun H locs hP hD hS => ?_)
    have hP : va_P g.1 vwCl [(a4, .inr (7, [.ref mo, .ref mv, .ref mb, .ref ms, .int 0])), (mo, .inl (g.2 0, 6, .inl z0)), (mv, .inl (g.2 0, 6, .inl z0)), (mb, .inl (g.2 0, 6, .inl z0)), (a1, .inr (7, [.ref no, .ref nv, .ref nb, .ref ns, .int 0])), (no, .inl (g.2 0, 6, .inl z0)), (nv, .inl (g.2 0, 6, .inl z0)), (nb, .inl (g.2 0, 6, .inl z0)), (ms, .inr (8, [.int 0, .int 0, .int 1, .int 0])), (ns, .inr (8, [.int 0, .int 0, .int 1, .int 0]))] H := hP
    have hD : va_D A [(a4, .inr (7, [.ref mo, .ref mv, .ref mb, .ref ms, .int 0])), (mo, .inl (g.2 0, 6, .inl z0)), (mv, .inl (g.2 0, 6, .inl z0)), (mb, .inl (g.2 0, 6, .inl z0)), (a1, .inr (7, [.ref no, .ref nv, .ref nb, .ref ns, .int 0])), (no, .inl (g.2 0, 6, .inl z0)), (nv, .inl (g.2 0, 6, .inl z0)), (nb, .inl (g.2 0, 6, .inl z0)), (ms, .inr (8, [.int 0, .int 0, .int 1, .int 0])), (ns, .inr (8, [.int 0, .int 0, .int 1, .int 0]))] := hD
    exact retV C hS () rfl (hP.pick [] rfl) (hD.sub [] rfl rfl) (Nat.le_of_ble_eq_true rfl) (Nat.le_of_ble_eq_true rfl) dX7_become_81
  refine lv_aload_n hx hb dX7_become_8 rfl (lv_at hl 1 rfl) ?_
  refine va_get (D := g.1) (ci := 7) (v := .ref mo) (C := RX7) (T := TX7) (N := 5) hx hb hts hi_X7_become_X7 hown hK hP 0 rfl rfl 0 (by decide) (hts (.fieldLink RX7 9 "OilPush$State" "oil" "[I") (by decide +kernel)) (fun _ h => h) rfl dX7_become_9 ?_
  refine lv_iload_n hx hb dX7_become_12 rfl (lv_at hl 0 rfl) ?_
  refine lv_aload_n hx hb dX7_become_13 rfl (lv_at hl 2 rfl) ?_
  refine va_get (D := g.1) (ci := 7) (v := .ref no) (C := RX7) (T := TX7) (N := 5) hx hb hts hi_X7_become_X7 hown hK hP 5 rfl rfl 0 (by decide) (hts (.fieldLink RX7 9 "OilPush$State" "oil" "[I") (by decide +kernel)) (fun _ h => h) rfl dX7_become_14 ?_
  refine lv_iload_n hx hb dX7_become_17 rfl (lv_at hl 0 rfl) ?_
  refine callIN (host := "OilPush") (As := [.ref no, .int ix]) (rest := [.int ix, .ref mo]) (wr := [(a4, .inr (7, [.ref mo, .ref mv, .ref mb, .ref ms, .int 0])), (mo, .inl (g.2 0, 6, .inl z0)), (mv, .inl (g.2 0, 6, .inl z0)), (mb, .inl (g.2 0, 6, .inl z0)), (ms, .inr (8, [.int 0, .int 0, .int 1, .int 0])), (a1, .inr (7, [.ref no, .ref nv, .ref nb, .ref ns, .int 0])), (nv, .inl (g.2 0, 6, .inl z0)), (nb, .inl (g.2 0, 6, .inl z0)), (ns, .inr (8, [.int 0, .int 0, .int 1, .int 0]))]) C (c_get l g no 6 z0 ix (by decide)) 2 gX7_become_X11_get_n28 rfl (hN.nest 16 rfl) (by decide +kernel) (by decide +kernel) (by decide +kernel) ⟨(Nat.le_of_ble_eq_true rfl), (Nat.le_of_ble_eq_true rfl)⟩ [6] [0, 1, 2, 3, 4, 5, 7, 8, 9] hP hD hA hS rfl rfl rfl rfl (by decide) rfl hl.1 rfl (Nat.le_of_ble_eq_true rfl) dX7_become_18 ⟨(Nat.le_of_ble_eq_true rfl), (Nat.le_of_ble_eq_true rfl)⟩ (fun r _u H locs hw hP hD hS => ?_)
  have hP : va_P g.1 vwCl [(a4, .inr (7, [.ref mo, .ref mv, .ref mb, .ref ms, .int 0])), (mo, .inl (g.2 0, 6, .inl z0)), (mv, .inl (g.2 0, 6, .inl z0)), (mb, .inl (g.2 0, 6, .inl z0)), (ms, .inr (8, [.int 0, .int 0, .int 1, .int 0])), (a1, .inr (7, [.ref no, .ref nv, .ref nb, .ref ns, .int 0])), (nv, .inl (g.2 0, 6, .inl z0)), (nb, .inl (g.2 0, 6, .inl z0)), (ns, .inr (8, [.int 0, .int 0, .int 1, .int 0])), (no, .inl (g.2 0, 6, .inl z0))] H := hP
  have hD : va_D A [(a4, .inr (7, [.ref mo, .ref mv, .ref mb, .ref ms, .int 0])), (mo, .inl (g.2 0, 6, .inl z0)), (mv, .inl (g.2 0, 6, .inl z0)), (mb, .inl (g.2 0, 6, .inl z0)), (ms, .inr (8, [.int 0, .int 0, .int 1, .int 0])), (a1, .inr (7, [.ref no, .ref nv, .ref nb, .ref ns, .int 0])), (nv, .inl (g.2 0, 6, .inl z0)), (nb, .inl (g.2 0, 6, .inl z0)), (ns, .inr (8, [.int 0, .int 0, .int 1, .int 0])), (no, .inl (g.2 0, 6, .inl z0))] := hD
  subst hw
  refine nx_i (v := 0) (get_z _ _) ?_
  refine callVN (host := "OilPush") (As := [.ref mo, .int ix, .int 0]) (rest := []) (wr := [(a4, .inr (7, [.ref mo, .ref mv, .ref mb, .ref ms, .int 0])), (mv, .inl (g.2 0, 6, .inl z0)), (mb, .inl (g.2 0, 6, .inl z0)), (ms, .inr (8, [.int 0, .int 0, .int 1, .int 0])), (a1, .inr (7, [.ref no, .ref nv, .ref nb, .ref ns, .int 0])), (nv, .inl (g.2 0, 6, .inl z0)), (nb, .inl (g.2 0, 6, .inl z0)), (ns, .inr (8, [.int 0, .int 0, .int 1, .int 0])), (no, .inl (g.2 0, 6, .inl z0))]) C (c_set0 l g mo 6 ix (by decide)) 3 gX7_become_X11_set_n32 rfl (hN.nest 17 rfl) (by decide +kernel) (by decide +kernel) (by decide +kernel) ⟨(Nat.le_of_ble_eq_true rfl), (Nat.le_of_ble_eq_true rfl)⟩ [1] [0, 2, 3, 4, 5, 6, 7, 8, 9] hP hD hA hS rfl rfl rfl rfl (by decide) rfl hl.1 rfl (Nat.le_of_ble_eq_true rfl) dX7_become_21 ⟨(Nat.le_of_ble_eq_true rfl), (Nat.le_of_ble_eq_true rfl)⟩ (fun _u H locs hw hP hD hS => ?_)
  have hP : va_P g.1 vwCl [(a4, .inr (7, [.ref mo, .ref mv, .ref mb, .ref ms, .int 0])), (mv, .inl (g.2 0, 6, .inl z0)), (mb, .inl (g.2 0, 6, .inl z0)), (ms, .inr (8, [.int 0, .int 0, .int 1, .int 0])), (a1, .inr (7, [.ref no, .ref nv, .ref nb, .ref ns, .int 0])), (nv, .inl (g.2 0, 6, .inl z0)), (nb, .inl (g.2 0, 6, .inl z0)), (ns, .inr (8, [.int 0, .int 0, .int 1, .int 0])), (no, .inl (g.2 0, 6, .inl z0)), (mo, .inl (g.2 0, 6, .inl z0))] H := hP
  have hD : va_D A [(a4, .inr (7, [.ref mo, .ref mv, .ref mb, .ref ms, .int 0])), (mv, .inl (g.2 0, 6, .inl z0)), (mb, .inl (g.2 0, 6, .inl z0)), (ms, .inr (8, [.int 0, .int 0, .int 1, .int 0])), (a1, .inr (7, [.ref no, .ref nv, .ref nb, .ref ns, .int 0])), (nv, .inl (g.2 0, 6, .inl z0)), (nb, .inl (g.2 0, 6, .inl z0)), (ns, .inr (8, [.int 0, .int 0, .int 1, .int 0])), (no, .inl (g.2 0, 6, .inl z0)), (mo, .inl (g.2 0, 6, .inl z0))] := hD
  refine lv_aload_n hx hb dX7_become_24 rfl (lv_at hl 1 rfl) ?_
  refine va_get (D := g.1) (ci := 7) (v := .ref mv) (C := RX7) (T := TX7) (N := 5) hx hb hts hi_X7_become_X7 hown hK hP 0 rfl rfl 1 (by decide) (hts (.fieldLink RX7 15 "OilPush$State" "valve" "[I") (by decide +kernel)) (fun _ h => h) rfl dX7_become_25 ?_
  refine lv_iload_n hx hb dX7_become_28 rfl (lv_at hl 0 rfl) ?_
  refine lv_aload_n hx hb dX7_become_29 rfl (lv_at hl 2 rfl) ?_
  refine va_get (D := g.1) (ci := 7) (v := .ref nv) (C := RX7) (T := TX7) (N := 5) hx hb hts hi_X7_become_X7 hown hK hP 4 rfl rfl 1 (by decide) (hts (.fieldLink RX7 15 "OilPush$State" "valve" "[I") (by decide +kernel)) (fun _ h => h) rfl dX7_become_30 ?_
  refine lv_iload_n hx hb dX7_become_33 rfl (lv_at hl 0 rfl) ?_
  refine callIN (host := "OilPush") (As := [.ref nv, .int ix]) (rest := [.int ix, .ref mv]) (wr := [(a4, .inr (7, [.ref mo, .ref mv, .ref mb, .ref ms, .int 0])), (mv, .inl (g.2 0, 6, .inl z0)), (mb, .inl (g.2 0, 6, .inl z0)), (ms, .inr (8, [.int 0, .int 0, .int 1, .int 0])), (a1, .inr (7, [.ref no, .ref nv, .ref nb, .ref ns, .int 0])), (nb, .inl (g.2 0, 6, .inl z0)), (ns, .inr (8, [.int 0, .int 0, .int 1, .int 0])), (no, .inl (g.2 0, 6, .inl z0)), (mo, .inl (g.2 0, 6, .inl z0))]) C (c_get l g nv 6 z0 ix (by decide)) 2 gX7_become_X11_get_n28 rfl (hN.nest 16 rfl) (by decide +kernel) (by decide +kernel) (by decide +kernel) ⟨(Nat.le_of_ble_eq_true rfl), (Nat.le_of_ble_eq_true rfl)⟩ [5] [0, 1, 2, 3, 4, 6, 7, 8, 9] hP hD hA hS rfl rfl rfl rfl (by decide) rfl hl.1 rfl (Nat.le_of_ble_eq_true rfl) dX7_become_34 ⟨(Nat.le_of_ble_eq_true rfl), (Nat.le_of_ble_eq_true rfl)⟩ (fun r _u H locs hw hP hD hS => ?_)
  have hP : va_P g.1 vwCl [(a4, .inr (7, [.ref mo, .ref mv, .ref mb, .ref ms, .int 0])), (mv, .inl (g.2 0, 6, .inl z0)), (mb, .inl (g.2 0, 6, .inl z0)), (ms, .inr (8, [.int 0, .int 0, .int 1, .int 0])), (a1, .inr (7, [.ref no, .ref nv, .ref nb, .ref ns, .int 0])), (nb, .inl (g.2 0, 6, .inl z0)), (ns, .inr (8, [.int 0, .int 0, .int 1, .int 0])), (no, .inl (g.2 0, 6, .inl z0)), (mo, .inl (g.2 0, 6, .inl z0)), (nv, .inl (g.2 0, 6, .inl z0))] H := hP
  have hD : va_D A [(a4, .inr (7, [.ref mo, .ref mv, .ref mb, .ref ms, .int 0])), (mv, .inl (g.2 0, 6, .inl z0)), (mb, .inl (g.2 0, 6, .inl z0)), (ms, .inr (8, [.int 0, .int 0, .int 1, .int 0])), (a1, .inr (7, [.ref no, .ref nv, .ref nb, .ref ns, .int 0])), (nb, .inl (g.2 0, 6, .inl z0)), (ns, .inr (8, [.int 0, .int 0, .int 1, .int 0])), (no, .inl (g.2 0, 6, .inl z0)), (mo, .inl (g.2 0, 6, .inl z0)), (nv, .inl (g.2 0, 6, .inl z0))] := hD
  subst hw
  refine nx_i (v := 0) (get_z _ _) ?_
  refine callVN (host := "OilPush") (As := [.ref mv, .int ix, .int 0]) (rest := []) (wr := [(a4, .inr (7, [.ref mo, .ref mv, .ref mb, .ref ms, .int 0])), (mb, .inl (g.2 0, 6, .inl z0)), (ms, .inr (8, [.int 0, .int 0, .int 1, .int 0])), (a1, .inr (7, [.ref no, .ref nv, .ref nb, .ref ns, .int 0])), (nb, .inl (g.2 0, 6, .inl z0)), (ns, .inr (8, [.int 0, .int 0, .int 1, .int 0])), (no, .inl (g.2 0, 6, .inl z0)), (mo, .inl (g.2 0, 6, .inl z0)), (nv, .inl (g.2 0, 6, .inl z0))]) C (c_set0 l g mv 6 ix (by decide)) 3 gX7_become_X11_set_n32 rfl (hN.nest 17 rfl) (by decide +kernel) (by decide +kernel) (by decide +kernel) ⟨(Nat.le_of_ble_eq_true rfl), (Nat.le_of_ble_eq_true rfl)⟩ [1] [0, 2, 3, 4, 5, 6, 7, 8, 9] hP hD hA hS rfl rfl rfl rfl (by decide) rfl hl.1 rfl (Nat.le_of_ble_eq_true rfl) dX7_become_37 ⟨(Nat.le_of_ble_eq_true rfl), (Nat.le_of_ble_eq_true rfl)⟩ (fun _u H locs hw hP hD hS => ?_)
  have hP : va_P g.1 vwCl [(a4, .inr (7, [.ref mo, .ref mv, .ref mb, .ref ms, .int 0])), (mb, .inl (g.2 0, 6, .inl z0)), (ms, .inr (8, [.int 0, .int 0, .int 1, .int 0])), (a1, .inr (7, [.ref no, .ref nv, .ref nb, .ref ns, .int 0])), (nb, .inl (g.2 0, 6, .inl z0)), (ns, .inr (8, [.int 0, .int 0, .int 1, .int 0])), (no, .inl (g.2 0, 6, .inl z0)), (mo, .inl (g.2 0, 6, .inl z0)), (nv, .inl (g.2 0, 6, .inl z0)), (mv, .inl (g.2 0, 6, .inl z0))] H := hP
  have hD : va_D A [(a4, .inr (7, [.ref mo, .ref mv, .ref mb, .ref ms, .int 0])), (mb, .inl (g.2 0, 6, .inl z0)), (ms, .inr (8, [.int 0, .int 0, .int 1, .int 0])), (a1, .inr (7, [.ref no, .ref nv, .ref nb, .ref ns, .int 0])), (nb, .inl (g.2 0, 6, .inl z0)), (ns, .inr (8, [.int 0, .int 0, .int 1, .int 0])), (no, .inl (g.2 0, 6, .inl z0)), (mo, .inl (g.2 0, 6, .inl z0)), (nv, .inl (g.2 0, 6, .inl z0)), (mv, .inl (g.2 0, 6, .inl z0))] := hD
  refine lv_aload_n hx hb dX7_become_40 rfl (lv_at hl 1 rfl) ?_
  refine va_get (D := g.1) (ci := 7) (v := .ref mb) (C := RX7) (T := TX7) (N := 5) hx hb hts hi_X7_become_X7 hown hK hP 0 rfl rfl 2 (by decide) (hts (.fieldLink RX7 18 "OilPush$State" "burst" "[I") (by decide +kernel)) (fun _ h => h) rfl dX7_become_41 ?_
  refine lv_iload_n hx hb dX7_become_44 rfl (lv_at hl 0 rfl) ?_
  refine lv_aload_n hx hb dX7_become_45 rfl (lv_at hl 2 rfl) ?_
  refine va_get (D := g.1) (ci := 7) (v := .ref nb) (C := RX7) (T := TX7) (N := 5) hx hb hts hi_X7_become_X7 hown hK hP 3 rfl rfl 2 (by decide) (hts (.fieldLink RX7 18 "OilPush$State" "burst" "[I") (by decide +kernel)) (fun _ h => h) rfl dX7_become_46 ?_
  refine lv_iload_n hx hb dX7_become_49 rfl (lv_at hl 0 rfl) ?_
  refine callIN (host := "OilPush") (As := [.ref nb, .int ix]) (rest := [.int ix, .ref mb]) (wr := [(a4, .inr (7, [.ref mo, .ref mv, .ref mb, .ref ms, .int 0])), (mb, .inl (g.2 0, 6, .inl z0)), (ms, .inr (8, [.int 0, .int 0, .int 1, .int 0])), (a1, .inr (7, [.ref no, .ref nv, .ref nb, .ref ns, .int 0])), (ns, .inr (8, [.int 0, .int 0, .int 1, .int 0])), (no, .inl (g.2 0, 6, .inl z0)), (mo, .inl (g.2 0, 6, .inl z0)), (nv, .inl (g.2 0, 6, .inl z0)), (mv, .inl (g.2 0, 6, .inl z0))]) C (c_get l g nb 6 z0 ix (by decide)) 2 gX7_become_X11_get_n28 rfl (hN.nest 16 rfl) (by decide +kernel) (by decide +kernel) (by decide +kernel) ⟨(Nat.le_of_ble_eq_true rfl), (Nat.le_of_ble_eq_true rfl)⟩ [4] [0, 1, 2, 3, 5, 6, 7, 8, 9] hP hD hA hS rfl rfl rfl rfl (by decide) rfl hl.1 rfl (Nat.le_of_ble_eq_true rfl) dX7_become_50 ⟨(Nat.le_of_ble_eq_true rfl), (Nat.le_of_ble_eq_true rfl)⟩ (fun r _u H locs hw hP hD hS => ?_)
  have hP : va_P g.1 vwCl [(a4, .inr (7, [.ref mo, .ref mv, .ref mb, .ref ms, .int 0])), (mb, .inl (g.2 0, 6, .inl z0)), (ms, .inr (8, [.int 0, .int 0, .int 1, .int 0])), (a1, .inr (7, [.ref no, .ref nv, .ref nb, .ref ns, .int 0])), (ns, .inr (8, [.int 0, .int 0, .int 1, .int 0])), (no, .inl (g.2 0, 6, .inl z0)), (mo, .inl (g.2 0, 6, .inl z0)), (nv, .inl (g.2 0, 6, .inl z0)), (mv, .inl (g.2 0, 6, .inl z0)), (nb, .inl (g.2 0, 6, .inl z0))] H := hP
  have hD : va_D A [(a4, .inr (7, [.ref mo, .ref mv, .ref mb, .ref ms, .int 0])), (mb, .inl (g.2 0, 6, .inl z0)), (ms, .inr (8, [.int 0, .int 0, .int 1, .int 0])), (a1, .inr (7, [.ref no, .ref nv, .ref nb, .ref ns, .int 0])), (ns, .inr (8, [.int 0, .int 0, .int 1, .int 0])), (no, .inl (g.2 0, 6, .inl z0)), (mo, .inl (g.2 0, 6, .inl z0)), (nv, .inl (g.2 0, 6, .inl z0)), (mv, .inl (g.2 0, 6, .inl z0)), (nb, .inl (g.2 0, 6, .inl z0))] := hD
  subst hw
  refine nx_i (v := 0) (get_z _ _) ?_
  refine callVN (host := "OilPush") (As := [.ref mb, .int ix, .int 0]) (rest := []) (wr := [(a4, .inr (7, [.ref mo, .ref mv, .ref mb, .ref ms, .int 0])), (ms, .inr (8, [.int 0, .int 0, .int 1, .int 0])), (a1, .inr (7, [.ref no, .ref nv, .ref nb, .ref ns, .int 0])), (ns, .inr (8, [.int 0, .int 0, .int 1, .int 0])), (no, .inl (g.2 0, 6, .inl z0)), (mo, .inl (g.2 0, 6, .inl z0)), (nv, .inl (g.2 0, 6, .inl z0)), (mv, .inl (g.2 0, 6, .inl z0)), (nb, .inl (g.2 0, 6, .inl z0))]) C (c_set0 l g mb 6 ix (by decide)) 3 gX7_become_X11_set_n32 rfl (hN.nest 17 rfl) (by decide +kernel) (by decide +kernel) (by decide +kernel) ⟨(Nat.le_of_ble_eq_true rfl), (Nat.le_of_ble_eq_true rfl)⟩ [1] [0, 2, 3, 4, 5, 6, 7, 8, 9] hP hD hA hS rfl rfl rfl rfl (by decide) rfl hl.1 rfl (Nat.le_of_ble_eq_true rfl) dX7_become_53 ⟨(Nat.le_of_ble_eq_true rfl), (Nat.le_of_ble_eq_true rfl)⟩ (fun _u H locs hw hP hD hS => ?_)
  have hP : va_P g.1 vwCl [(a4, .inr (7, [.ref mo, .ref mv, .ref mb, .ref ms, .int 0])), (ms, .inr (8, [.int 0, .int 0, .int 1, .int 0])), (a1, .inr (7, [.ref no, .ref nv, .ref nb, .ref ns, .int 0])), (ns, .inr (8, [.int 0, .int 0, .int 1, .int 0])), (no, .inl (g.2 0, 6, .inl z0)), (mo, .inl (g.2 0, 6, .inl z0)), (nv, .inl (g.2 0, 6, .inl z0)), (mv, .inl (g.2 0, 6, .inl z0)), (nb, .inl (g.2 0, 6, .inl z0)), (mb, .inl (g.2 0, 6, .inl z0))] H := hP
  have hD : va_D A [(a4, .inr (7, [.ref mo, .ref mv, .ref mb, .ref ms, .int 0])), (ms, .inr (8, [.int 0, .int 0, .int 1, .int 0])), (a1, .inr (7, [.ref no, .ref nv, .ref nb, .ref ns, .int 0])), (ns, .inr (8, [.int 0, .int 0, .int 1, .int 0])), (no, .inl (g.2 0, 6, .inl z0)), (mo, .inl (g.2 0, 6, .inl z0)), (nv, .inl (g.2 0, 6, .inl z0)), (mv, .inl (g.2 0, 6, .inl z0)), (nb, .inl (g.2 0, 6, .inl z0)), (mb, .inl (g.2 0, 6, .inl z0))] := hD
  refine lv_iinc (v := (ix + 1)) (lv' := [(2, .int (ix + 1)), (0, .ref a4), (1, .ref a1)]) hx hb dX7_become_56 hl (k := 0) rfl rfl (by decide) rfl (fun ls hl => ?_)
  refine lv_goto (tgt := 2) hx hb dX7_become_59 (by decide) ?_
  have hx1 := inc_toInt c1
  exact ih (ix + 1) ls H locs ⟨(by omega), (by exact inc_le c1), lv_sub hl [0, 1, 2] rfl, hP.pick [0, 5, 7, 9, 1, 2, 4, 6, 8, 3] rfl, hS⟩ (by exact inc_mu c1 hib)
theorem hi_X11_start_X11 : ∀ w ∈ wsX110, w ∈ wsX11_start := fun w h => List.mem_cons_of_mem _ (List.mem_append_left _ (List.mem_append_left _ (List.mem_append_right _ h)))
set_option maxRecDepth 100000 in
set_option maxHeartbeats 4000000 in
theorem x_start (l : Launch) (g : Gt) (h0 : Nat) (a0 : Nat) (a1 : Nat) (a2 : Nat) (a3 : Nat) (a4 : Nat) (a5 : Nat) (a6 : Nat) (a7 : Nat) (a8 : Nat) (a9 : Nat) (a10 : Nat) (mo : Nat) (mv : Nat) (mb : Nat) (ms : Nat) (no : Nat) (nv : Nat) (nb : Nat) (ns : Nat)  : Ctr l g yX11_start wsX11_start ({ frames := 2, cells := 0, slots := 0, locals := 44 } : Room) [.ref h0] [(h0, .inr (11, [.ref a0, .ref a1, .ref a2, .ref a3, .ref a4, .ref a5, .ref a6, .ref a7, .ref a8, .ref a9, .ref a10, .int 0, .int 0, .int 0, .int 0])), (a4, .inr (7, [.ref mo, .ref mv, .ref mb, .ref ms, .int 0])), (mo, .inl (g.2 0, 6, .inl z0)), (mv, .inl (g.2 0, 6, .inl z0)), (mb, .inl (g.2 0, 6, .inl z0)), (ms, .inr (8, [.int 0, .int 0, .int 1, .int 0])), (a1, .inr (7, [.ref no, .ref nv, .ref nb, .ref ns, .int 0])), (no, .inl (g.2 0, 6, .inl z0)), (nv, .inl (g.2 0, 6, .inl z0)), (nb, .inl (g.2 0, 6, .inl z0)), (ns, .inr (8, [.int 0, .int 0, .int 1, .int 0]))] (fun A => QI g A (fun r (_ : Unit) => r = 1) (fun _u : Unit => [])) := by
  refine Ctr.of (cc := cX11_start) (maxL := 1) (ret := (some .int)) (by decide) rfl (Nat.le_of_ble_eq_true rfl) ?_
  intro p e s m below meth c A ls H C hP hD hA hS hl
  obtain ⟨hx, hb, hr, hts, hown, hlocks, hml, hin, hKN⟩ := id C
  have hK := hKN.1
  have hN := hKN.2
  have F : CallFix p m c cX11_start 1 s _ wsX11_start yX11_start.cls := ⟨hx, hb, hml, hown, hts⟩
  have hl : lv_has ls 1 [(0, .ref h0)] := hl
  refine lv_aload_n hx hb dX11_start_0 rfl (lv_at hl 0 rfl) ?_
  refine va_get (D := g.1) (ci := 11) (v := .ref a4) (C := RX11) (T := TX11) (N := 15) hx hb hts hi_X11_start_X11 hown hK hP 0 rfl rfl 4 (by decide) (hts (.fieldLink RX11 39 "OilPush" "atStart" "LOilPush$State;") (by decide +kernel)) (fun _ h => h) rfl dX11_start_1 ?_
  refine lv_aload_n hx hb dX11_start_4 rfl (lv_at hl 0 rfl) ?_
  refine va_get (D := g.1) (ci := 11) (v := .ref a1) (C := RX11) (T := TX11) (N := 15) hx hb hts hi_X11_start_X11 hown hK hP 0 rfl rfl 1 (by decide) (hts (.fieldLink RX11 21 "OilPush" "now" "LOilPush$State;") (by decide +kernel)) (fun _ h => h) rfl dX11_start_5 ?_
  refine callVV (As := [.ref a1]) (rest := []) (wr := [(h0, .inr (11, [.ref a0, .ref a1, .ref a2, .ref a3, .ref a4, .ref a5, .ref a6, .ref a7, .ref a8, .ref a9, .ref a10, .int 0, .int 0, .int 0, .int 0]))]) (Cn := RX7) C (c_become l g a4 mo mv mb ms a1 no nv nb ns) 1 gX11_start_X7_become rfl (by decide +kernel) ⟨(Nat.le_of_ble_eq_true rfl), (Nat.le_of_ble_eq_true rfl)⟩ [1, 2, 3, 4, 5, 6, 7, 8, 9, 10] [0] hP hD hA hS rfl rfl rfl rfl (by decide) (k := 1) (ci := 7) rfl rfl rfl rfl hl.1 rfl (Nat.le_of_ble_eq_true rfl) dX11_start_8 ⟨(Nat.le_of_ble_eq_true rfl), (Nat.le_of_ble_eq_true rfl)⟩ (fun _u H locs hw hP hD hS => ?_)
  have hP : va_P g.1 vwCl [(h0, .inr (11, [.ref a0, .ref a1, .ref a2, .ref a3, .ref a4, .ref a5, .ref a6, .ref a7, .ref a8, .ref a9, .ref a10, .int 0, .int 0, .int 0, .int 0]))] H := hP
  have hD : va_D A [(h0, .inr (11, [.ref a0, .ref a1, .ref a2, .ref a3, .ref a4, .ref a5, .ref a6, .ref a7, .ref a8, .ref a9, .ref a10, .int 0, .int 0, .int 0, .int 0]))] := hD
  refine lv_aload_n hx hb dX11_start_11 rfl (lv_at hl 0 rfl) ?_
  refine lv_iconst (v := 1) hx hb dX11_start_12 (by decide) ?_
  refine va_put (D := g.1) (ci := 11) (v := .int 1) (ty := .boolean) (C := RX11) (T := TX11) (N := 15) hx hb hts hi_X11_start_X11 tyX11 tyX11_ok nmX11 hown hK hP hD hS 0 rfl rfl 12 (by decide) (hts (.fieldLink RX11 252 "OilPush" "started" "Z") (by decide +kernel)) (fun _ h => h) rfl (by decide +kernel) rfl rfl (Nat.le_of_ble_eq_true rfl) dX11_start_13 (fun H locs hP hD hS => ?_)
  have hP : va_P g.1 vwCl [(h0, .inr (11, [.ref a0, .ref a1, .ref a2, .ref a3, .ref a4, .ref a5, .ref a6, .ref a7, .ref a8, .ref a9, .ref a10, .int 0, .int 1, .int 0, .int 0]))] H := hP
  have hD : va_D A [(h0, .inr (11, [.ref a0, .ref a1, .ref a2, .ref a3, .ref a4, .ref a5, .ref a6, .ref a7, .ref a8, .ref a9, .ref a10, .int 0, .int 1, .int 0, .int 0]))] := hD
  refine lv_aload_n hx hb dX11_start_16 rfl (lv_at hl 0 rfl) ?_
  refine lv_iconst (v := 0) hx hb dX11_start_17 (by decide) ?_
  refine va_put (D := g.1) (ci := 11) (v := .int 0) (ty := .int) (C := RX11) (T := TX11) (N := 15) hx hb hts hi_X11_start_X11 tyX11 tyX11_ok nmX11 hown hK hP hD hS 0 rfl rfl 14 (by decide) (hts (.fieldLink RX11 197 "OilPush" "ticks" "I") (by decide +kernel)) (fun _ h => h) rfl (by decide +kernel) rfl rfl (Nat.le_of_ble_eq_true rfl) dX11_start_18 (fun H locs hP hD hS => ?_)
  have hP : va_P g.1 vwCl [(h0, .inr (11, [.ref a0, .ref a1, .ref a2, .ref a3, .ref a4, .ref a5, .ref a6, .ref a7, .ref a8, .ref a9, .ref a10, .int 0, .int 1, .int 0, .int 0]))] H := hP
  have hD : va_D A [(h0, .inr (11, [.ref a0, .ref a1, .ref a2, .ref a3, .ref a4, .ref a5, .ref a6, .ref a7, .ref a8, .ref a9, .ref a10, .int 0, .int 1, .int 0, .int 0]))] := hD
  refine lv_iconst (v := 1) hx hb dX11_start_21 (by decide) ?_
  exact retI C hS () rfl (hP.pick [] rfl) (hD.sub [] rfl rfl) (Nat.le_of_ble_eq_true rfl) (Nat.le_of_ble_eq_true rfl) dX11_start_22
theorem hi_X11_forget_X11 : ∀ w ∈ wsX110, w ∈ wsX11_forget := fun w h => List.mem_cons_of_mem _ (List.mem_append_left _ (List.mem_append_right _ h))
theorem hi_X11_forget_X5 : ∀ w ∈ wsX50, w ∈ wsX11_forget := fun w h => List.mem_cons_of_mem _ (List.mem_append_right _ h)
set_option maxRecDepth 100000 in
set_option maxHeartbeats 4000000 in
theorem x_forget (l : Launch) (g : Gt) (h0 : Nat) (a0 : Nat) (a1 : Nat) (a2 : Nat) (a3 : Nat) (a4 : Nat) (a5 : Nat) (a6 : Nat) (a7 : Nat) (a8 : Nat) (a9 : Nat) (a10 : Nat) (rt : Nat) (rf : Nat) (ro : Nat)  : Ctr l g yX11_forget wsX11_forget ({ frames := 0, cells := 0, slots := 0, locals := 0 } : Room) [.ref h0] [(h0, .inr (11, [.ref a0, .ref a1, .ref a2, .ref a3, .ref a4, .ref a5, .ref a6, .ref a7, .ref a8, .ref a9, .ref a10, .int 0, .int 0, .int 0, .int 0])), (a8, .inr (5, [.ref rt, .ref rf, .ref ro, .int 0]))] (fun A => QI g A (fun r (_ : Unit) => r = 0) (fun _u : Unit => [])) := by
  refine Ctr.of (cc := cX11_forget) (maxL := 2) (ret := (some .int)) (by decide) rfl (Nat.le_of_ble_eq_true rfl) ?_
  intro p e s m below meth c A ls H C hP hD hA hS hl
  obtain ⟨hx, hb, hr, hts, hown, hlocks, hml, hin, hKN⟩ := id C
  have hK := hKN.1
  have hN := hKN.2
  have F : CallFix p m c cX11_forget 2 s _ wsX11_forget yX11_forget.cls := ⟨hx, hb, hml, hown, hts⟩
  have hl : lv_has ls 2 [(0, .ref h0)] := hl
  refine lv_aload_n hx hb dX11_forget_0 rfl (lv_at hl 0 rfl) ?_
  refine va_get (D := g.1) (ci := 11) (v := .ref a8) (C := RX11) (T := TX11) (N := 15) hx hb hts hi_X11_forget_X11 hown hK hP 0 rfl rfl 8 (by decide) (hts (.fieldLink RX11 55 "OilPush" "readings" "LOilPush$Readings;") (by decide +kernel)) (fun _ h => h) rfl dX11_forget_1 ?_
  refine va_get (D := g.1) (ci := 5) (v := .int 0) (C := RX5) (T := TX5) (N := 4) hx hb hts hi_X11_forget_X5 hown hK hP 1 rfl rfl 3 (by decide) (hts (.fieldLink RX11 256 "OilPush$Readings" "count" "I") (by decide +kernel)) (fun _ h => h) rfl dX11_forget_4 ?_
  refine lv_istore_n (lv' := [(1, .int 0), (0, .ref h0)]) hx hb dX11_forget_7 rfl hl (by decide) rfl (fun ls hl => ?_)
  refine lv_aload_n hx hb dX11_forget_8 rfl (lv_at hl 1 rfl) ?_
  refine va_get (D := g.1) (ci := 11) (v := .ref a8) (C := RX11) (T := TX11) (N := 15) hx hb hts hi_X11_forget_X11 hown hK hP 0 rfl rfl 8 (by decide) (hts (.fieldLink RX11 55 "OilPush" "readings" "LOilPush$Readings;") (by decide +kernel)) (fun _ h => h) rfl dX11_forget_9 ?_
  refine lv_iconst (v := 0) hx hb dX11_forget_12 (by decide) ?_
  refine va_put (D := g.1) (ci := 5) (v := .int 0) (ty := .int) (C := RX5) (T := TX5) (N := 4) hx hb hts hi_X11_forget_X5 tyX5 tyX5_ok nmX5 hown hK hP hD hS 1 rfl rfl 3 (by decide) (hts (.fieldLink RX11 256 "OilPush$Readings" "count" "I") (by decide +kernel)) (fun _ h => h) rfl (by decide +kernel) rfl rfl (Nat.le_of_ble_eq_true rfl) dX11_forget_13 (fun H locs hP hD hS => ?_)
  have hP : va_P g.1 vwCl [(h0, .inr (11, [.ref a0, .ref a1, .ref a2, .ref a3, .ref a4, .ref a5, .ref a6, .ref a7, .ref a8, .ref a9, .ref a10, .int 0, .int 0, .int 0, .int 0])), (a8, .inr (5, [.ref rt, .ref rf, .ref ro, .int 0]))] H := hP
  have hD : va_D A [(h0, .inr (11, [.ref a0, .ref a1, .ref a2, .ref a3, .ref a4, .ref a5, .ref a6, .ref a7, .ref a8, .ref a9, .ref a10, .int 0, .int 0, .int 0, .int 0])), (a8, .inr (5, [.ref rt, .ref rf, .ref ro, .int 0]))] := hD
  refine lv_iload_n hx hb dX11_forget_16 rfl (lv_at hl 0 rfl) ?_
  exact retI C hS () rfl (hP.pick [] rfl) (hD.sub [] rfl rfl) (Nat.le_of_ble_eq_true rfl) (Nat.le_of_ble_eq_true rfl) dX11_forget_17
theorem hi_X11_leak_X11 : ∀ w ∈ wsX110, w ∈ wsX11_leak := fun w h => List.mem_cons_of_mem _ (List.mem_append_left _ (List.mem_append_left _ (List.mem_append_left _ (List.mem_append_left _ (List.mem_append_left _ (List.mem_append_left _ (List.mem_append_left _ (List.mem_append_left _ (List.mem_append_left _ (List.mem_append_right _ h))))))))))
def r_x_leak (what : Int32) : Int32 := (if what = 0 then (-3) else (if what = 1 then (-3) else (-2)))
set_option maxRecDepth 100000 in
set_option maxHeartbeats 4000000 in
theorem x_leak (l : Launch) (g : Gt) (h0 : Nat) (a0 : Nat) (a1 : Nat) (a2 : Nat) (a3 : Nat) (a4 : Nat) (a5 : Nat) (a6 : Nat) (a7 : Nat) (a8 : Nat) (a9 : Nat) (a10 : Nat) (what : Int32)  : Ctr l g yX11_leak wsX11_leak ({ frames := 0, cells := 0, slots := 0, locals := 0 } : Room) [.ref h0, .int what] [(h0, .inr (11, [.ref a0, .ref a1, .ref a2, .ref a3, .ref a4, .ref a5, .ref a6, .ref a7, .ref a8, .ref a9, .ref a10, .int 0, .int 0, .int 0, .int 0]))] (fun A => QI g A (fun r (_ : Unit) => r = (r_x_leak what)) (fun _u : Unit => [])) := by
  refine Ctr.of (cc := cX11_leak) (maxL := 4) (ret := (some .int)) (by decide) rfl (Nat.le_of_ble_eq_true rfl) ?_
  intro p e s m below meth c A ls H C hP hD hA hS hl
  obtain ⟨hx, hb, hr, hts, hown, hlocks, hml, hin, hKN⟩ := id C
  have hK := hKN.1
  have hN := hKN.2
  have F : CallFix p m c cX11_leak 4 s _ wsX11_leak yX11_leak.cls := ⟨hx, hb, hml, hown, hts⟩
  have hl : lv_has ls 4 [(0, .ref h0), (1, .int what)] := hl
  refine lv_iload_n hx hb dX11_leak_0 rfl (lv_at hl 1 rfl) ?_
  refine lv_if_eq (tgt := 12) hx hb dX11_leak_1 (by decide) (fun c1 => ?_) (fun c1 => ?_)
  · refine lv_aload_n hx hb dX11_leak_12 rfl (lv_at hl 0 rfl) ?_
    refine va_get (D := g.1) (ci := 11) (v := .int 0) (C := RX11) (T := TX11) (N := 15) hx hb hts hi_X11_leak_X11 hown hK hP 0 rfl rfl 12 (by decide) (hts (.fieldLink RX11 252 "OilPush" "started" "Z") (by decide +kernel)) (fun _ h => h) rfl dX11_leak_13 ?_
    refine lv_if_eq (tgt := 43) hx hb dX11_leak_16 (by decide) (fun _ => ?_) (fun cc0 => absurd cc0 (by decide))
    refine lv_bipush (v := -3) hx hb dX11_leak_43 (by decide) ?_
    exact retI C hS () (by unfold r_x_leak; rw [if_pos c1]) (hP.pick [] rfl) (hD.sub [] rfl rfl) (Nat.le_of_ble_eq_true rfl) (Nat.le_of_ble_eq_true rfl) dX11_leak_45
  refine lv_iload_n hx hb dX11_leak_4 rfl (lv_at hl 1 rfl) ?_
  refine lv_iconst (v := 1) hx hb dX11_leak_5 (by decide) ?_
  refine lv_icmp_eq (tgt := 12) hx hb dX11_leak_6 (by decide) (fun c2 => ?_) (fun c2 => ?_)
  · refine lv_aload_n hx hb dX11_leak_12 rfl (lv_at hl 0 rfl) ?_
    refine va_get (D := g.1) (ci := 11) (v := .int 0) (C := RX11) (T := TX11) (N := 15) hx hb hts hi_X11_leak_X11 hown hK hP 0 rfl rfl 12 (by decide) (hts (.fieldLink RX11 252 "OilPush" "started" "Z") (by decide +kernel)) (fun _ h => h) rfl dX11_leak_13 ?_
    refine lv_if_eq (tgt := 43) hx hb dX11_leak_16 (by decide) (fun _ => ?_) (fun cc0 => absurd cc0 (by decide))
    refine lv_bipush (v := -3) hx hb dX11_leak_43 (by decide) ?_
    exact retI C hS () (by unfold r_x_leak; rw [if_neg c1, if_pos c2]) (hP.pick [] rfl) (hD.sub [] rfl rfl) (Nat.le_of_ble_eq_true rfl) (Nat.le_of_ble_eq_true rfl) dX11_leak_45
  refine lv_bipush (v := -2) hx hb dX11_leak_9 (by decide) ?_
  exact retI C hS () (by unfold r_x_leak; rw [if_neg c1, if_neg c2]) (hP.pick [] rfl) (hD.sub [] rfl rfl) (Nat.le_of_ble_eq_true rfl) (Nat.le_of_ble_eq_true rfl) dX11_leak_11
theorem hi_X11_trace_X11 : ∀ w ∈ wsX110, w ∈ wsX11_trace := fun w h => List.mem_cons_of_mem _ (List.mem_append_left _ (List.mem_append_right _ h))
theorem hi_X11_trace_X9 : ∀ w ∈ wsX90, w ∈ wsX11_trace := fun w h => List.mem_cons_of_mem _ (List.mem_append_right _ h)
set_option maxRecDepth 100000 in
set_option maxHeartbeats 4000000 in
theorem x_trace (l : Launch) (g : Gt) (h0 : Nat) (a0 : Nat) (a1 : Nat) (a2 : Nat) (a3 : Nat) (a4 : Nat) (a5 : Nat) (a6 : Nat) (a7 : Nat) (a8 : Nat) (a9 : Nat) (a10 : Nat)  : Ctr l g yX11_trace wsX11_trace ({ frames := 0, cells := 0, slots := 0, locals := 0 } : Room) [.ref h0] [(h0, .inr (11, [.ref a0, .ref a1, .ref a2, .ref a3, .ref a4, .ref a5, .ref a6, .ref a7, .ref a8, .ref a9, .ref a10, .int 0, .int 0, .int 0, .int 0])), (a10, .inr (9, [.int 0]))] (fun A => QI g A (fun r (_ : Unit) => r = 0) (fun _u : Unit => [])) := by
  refine Ctr.of (cc := cX11_trace) (maxL := 1) (ret := (some .int)) (by decide) rfl (Nat.le_of_ble_eq_true rfl) ?_
  intro p e s m below meth c A ls H C hP hD hA hS hl
  obtain ⟨hx, hb, hr, hts, hown, hlocks, hml, hin, hKN⟩ := id C
  have hK := hKN.1
  have hN := hKN.2
  have F : CallFix p m c cX11_trace 1 s _ wsX11_trace yX11_trace.cls := ⟨hx, hb, hml, hown, hts⟩
  have hl : lv_has ls 1 [(0, .ref h0)] := hl
  refine lv_aload_n hx hb dX11_trace_0 rfl (lv_at hl 0 rfl) ?_
  refine va_get (D := g.1) (ci := 11) (v := .ref a10) (C := RX11) (T := TX11) (N := 15) hx hb hts hi_X11_trace_X11 hown hK hP 0 rfl rfl 10 (by decide) (hts (.fieldLink RX11 68 "OilPush" "trace" "LOilPush$Trace;") (by decide +kernel)) (fun _ h => h) rfl dX11_trace_1 ?_
  refine va_get (D := g.1) (ci := 9) (v := .int 0) (C := RX9) (T := TX9) (N := 1) hx hb hts hi_X11_trace_X9 hown hK hP 1 rfl rfl 0 (by decide) (hts (.fieldLink RX11 304 "OilPush$Trace" "value" "I") (by decide +kernel)) (fun _ h => h) rfl dX11_trace_4 ?_
  exact retI C hS () rfl (hP.pick [] rfl) (hD.sub [] rfl rfl) (Nat.le_of_ble_eq_true rfl) (Nat.le_of_ble_eq_true rfl) dX11_trace_7
theorem hi_X11_fault_X11 : ∀ w ∈ wsX110, w ∈ wsX11_fault := fun w h => List.mem_cons_of_mem _ (List.mem_append_right _ h)
set_option maxRecDepth 100000 in
set_option maxHeartbeats 4000000 in
theorem x_fault (l : Launch) (g : Gt) (h0 : Nat) (a0 : Nat) (a1 : Nat) (a2 : Nat) (a3 : Nat) (a4 : Nat) (a5 : Nat) (a6 : Nat) (a7 : Nat) (a8 : Nat) (a9 : Nat) (a10 : Nat)  : Ctr l g yX11_fault wsX11_fault ({ frames := 0, cells := 0, slots := 0, locals := 0 } : Room) [.ref h0] [(h0, .inr (11, [.ref a0, .ref a1, .ref a2, .ref a3, .ref a4, .ref a5, .ref a6, .ref a7, .ref a8, .ref a9, .ref a10, .int 0, .int 0, .int 0, .int 0]))] (fun A => QI g A (fun r (_ : Unit) => r = 0) (fun _u : Unit => [])) := by
  refine Ctr.of (cc := cX11_fault) (maxL := 1) (ret := (some .int)) (by decide) rfl (Nat.le_of_ble_eq_true rfl) ?_
  intro p e s m below meth c A ls H C hP hD hA hS hl
  obtain ⟨hx, hb, hr, hts, hown, hlocks, hml, hin, hKN⟩ := id C
  have hK := hKN.1
  have hN := hKN.2
  have F : CallFix p m c cX11_fault 1 s _ wsX11_fault yX11_fault.cls := ⟨hx, hb, hml, hown, hts⟩
  have hl : lv_has ls 1 [(0, .ref h0)] := hl
  refine lv_aload_n hx hb dX11_fault_0 rfl (lv_at hl 0 rfl) ?_
  refine va_get (D := g.1) (ci := 11) (v := .int 0) (C := RX11) (T := TX11) (N := 15) hx hb hts hi_X11_fault_X11 hown hK hP 0 rfl rfl 11 (by decide) (hts (.fieldLink RX11 110 "OilPush" "latestFault" "I") (by decide +kernel)) (fun _ h => h) rfl dX11_fault_1 ?_
  exact retI C hS () rfl (hP.pick [] rfl) (hD.sub [] rfl rfl) (Nat.le_of_ble_eq_true rfl) (Nat.le_of_ble_eq_true rfl) dX11_fault_4
theorem hi_X4_howManyAt_X4 : ∀ w ∈ wsX40, w ∈ wsX4_howManyAt := fun w h => List.mem_cons_of_mem _ (List.mem_append_left _ (List.mem_append_left _ (List.mem_append_left _ (List.mem_append_left _ (List.mem_append_right _ h)))))
set_option maxRecDepth 100000 in
set_option maxHeartbeats 4000000 in
theorem c_howMany (l : Launch) (g : Gt) (a0 : Nat) (b2 : Nat) (b4 : Nat) (en : Int32) (a1 : Nat)  : Ctr l g yX4_howManyAt wsX4_howManyAt ({ frames := 0, cells := 0, slots := 0, locals := 0 } : Room) [.ref a0, .int en, .ref a1] [(a0, .inr (4, [.int 0, .int 100, .ref b2, .int 0, .ref b4]))] (fun A => QI g A (fun r (_ : Unit) => r = 0) (fun _u : Unit => [])) := by
  refine Ctr.of (cc := cX4_howManyAt) (maxL := 6) (ret := (some .int)) (by decide) rfl (Nat.le_of_ble_eq_true rfl) ?_
  intro p e s m below meth c A ls H C hP hD hA hS hl
  obtain ⟨hx, hb, hr, hts, hown, hlocks, hml, hin, hKN⟩ := id C
  have hK := hKN.1
  have hN := hKN.2
  have F : CallFix p m c cX4_howManyAt 6 s _ wsX4_howManyAt yX4_howManyAt.cls := ⟨hx, hb, hml, hown, hts⟩
  have hl : lv_has ls 6 [(0, .ref a0), (1, .int en), (2, .ref a1)] := hl
  refine lv_iconst (v := 0) hx hb dX4_howManyAt_0 (by decide) ?_
  refine lv_istore_n (lv' := [(3, .int 0), (0, .ref a0), (1, .int en), (2, .ref a1)]) hx hb dX4_howManyAt_1 rfl hl (by decide) rfl (fun ls hl => ?_)
  refine lv_iconst (v := 0) hx hb dX4_howManyAt_2 (by decide) ?_
  refine lv_istore (lv' := [(4, .int 0), (3, .int 0), (0, .ref a0), (1, .int en), (2, .ref a1)]) hx hb dX4_howManyAt_3 hl (by decide) rfl (fun ls hl => ?_)
  refine lv_iload hx hb dX4_howManyAt_5 (lv_at hl 0 rfl) ?_
  refine lv_aload_n hx hb dX4_howManyAt_7 rfl (lv_at hl 2 rfl) ?_
  refine va_get (D := g.1) (ci := 4) (v := .int 0) (C := RX4) (T := TX4) (N := 5) hx hb hts hi_X4_howManyAt_X4 hown hK hP 0 rfl rfl 3 (by decide) (hts (.fieldLink RX4 25 "OilPush$Plant" "count" "I") (by decide +kernel)) (fun _ h => h) rfl dX4_howManyAt_8 ?_
  refine lv_icmp_ge (tgt := 54) hx hb dX4_howManyAt_11 (by decide) (fun _ => ?_) (fun cc0 => absurd cc0 (by decide))
  refine lv_iload_n hx hb dX4_howManyAt_54 rfl (lv_at hl 1 rfl) ?_
  exact retI C hS () rfl (hP.pick [] rfl) (hD.sub [] rfl rfl) (Nat.le_of_ble_eq_true rfl) (Nat.le_of_ble_eq_true rfl) dX4_howManyAt_55
theorem hi_X11_told_X11 : ∀ w ∈ wsX110, w ∈ wsX11_told := fun w h => List.mem_cons_of_mem _ (List.mem_append_left _ (List.mem_append_left _ (List.mem_append_left _ (List.mem_append_left _ (List.mem_append_left _ (List.mem_append_left _ (List.mem_append_left _ (List.mem_append_right _ h))))))))
theorem hi_X11_told_X3 : ∀ w ∈ wsX30, w ∈ wsX11_told := fun w h => List.mem_cons_of_mem _ (List.mem_append_left _ (List.mem_append_left _ (List.mem_append_left _ (List.mem_append_left _ (List.mem_append_left _ (List.mem_append_right _ h))))))
theorem hi_X11_told_X4 : ∀ w ∈ wsX40, w ∈ wsX11_told := fun w h => List.mem_cons_of_mem _ (List.mem_append_left _ (List.mem_append_left _ (List.mem_append_left _ (List.mem_append_left _ (List.mem_append_left _ (List.mem_append_left _ (List.mem_append_right _ h)))))))
theorem hi_X11_told_X5 : ∀ w ∈ wsX50, w ∈ wsX11_told := fun w h => List.mem_cons_of_mem _ (List.mem_append_left _ (List.mem_append_left _ (List.mem_append_left _ (List.mem_append_left _ (List.mem_append_right _ h)))))
def r_x_told (what : Int32) : Int32 := (if what = 0 then 0 else (if what = 1 then 0 else (if what = 2 then 0 else (if what = 3 then 0 else (if what = 4 then 0 else (if what = 5 then 0 else (-2)))))))
set_option maxRecDepth 100000 in
set_option maxHeartbeats 4000000 in
theorem x_told (l : Launch) (g : Gt) (h0 : Nat) (a0 : Nat) (a1 : Nat) (a2 : Nat) (a3 : Nat) (a4 : Nat) (a5 : Nat) (a6 : Nat) (a7 : Nat) (a8 : Nat) (a9 : Nat) (a10 : Nat) (b2 : Nat) (b4 : Nat) (ow : Nat) (oe : Nat) (ot : Nat) (ov : Nat) (rt : Nat) (rf : Nat) (ro : Nat) (what : Int32)  : Ctr l g yX11_told wsX11_told ({ frames := 1, cells := 0, slots := 0, locals := 25 } : Room) [.ref h0, .int what] [(h0, .inr (11, [.ref a0, .ref a1, .ref a2, .ref a3, .ref a4, .ref a5, .ref a6, .ref a7, .ref a8, .ref a9, .ref a10, .int 0, .int 0, .int 0, .int 0])), (a0, .inr (4, [.int 0, .int 100, .ref b2, .int 0, .ref b4])), (a3, .inr (3, [.ref ow, .ref oe, .ref ot, .ref ov, .int 0])), (a8, .inr (5, [.ref rt, .ref rf, .ref ro, .int 0]))] (fun A => QI g A (fun r (_ : Unit) => r = (r_x_told what)) (fun _u : Unit => [])) := by
  refine Ctr.of (cc := cX11_told) (maxL := 2) (ret := (some .int)) (by decide) rfl (Nat.le_of_ble_eq_true rfl) ?_
  intro p e s m below meth c A ls H C hP hD hA hS hl
  obtain ⟨hx, hb, hr, hts, hown, hlocks, hml, hin, hKN⟩ := id C
  have hK := hKN.1
  have hN := hKN.2
  have F : CallFix p m c cX11_told 2 s _ wsX11_told yX11_told.cls := ⟨hx, hb, hml, hown, hts⟩
  have hl : lv_has ls 2 [(0, .ref h0), (1, .int what)] := hl
  refine lv_iload_n hx hb dX11_told_0 rfl (lv_at hl 1 rfl) ?_
  by_cases w1 : what = 0
  · refine lv_tableIn (tgt := 40) (off := 39) hx hb dX11_told_1 (by rw [w1]; decide) (by rw [w1]; decide) (by rw [w1]; rfl) (by decide) ?_
    refine lv_aload_n hx hb dX11_told_40 rfl (lv_at hl 0 rfl) ?_
    refine va_get (D := g.1) (ci := 11) (v := .ref a0) (C := RX11) (T := TX11) (N := 15) hx hb hts hi_X11_told_X11 hown hK hP 0 rfl rfl 0 (by decide) (hts (.fieldLink RX11 12 "OilPush" "plant" "LOilPush$Plant;") (by decide +kernel)) (fun _ h => h) rfl dX11_told_41 ?_
    refine va_get (D := g.1) (ci := 4) (v := .int 0) (C := RX4) (T := TX4) (N := 5) hx hb hts hi_X11_told_X4 hown hK hP 1 rfl rfl 3 (by decide) (hts (.fieldLink RX11 87 "OilPush$Plant" "count" "I") (by decide +kernel)) (fun _ h => h) rfl dX11_told_44 ?_
    exact retI C hS () (by unfold r_x_told; rw [if_pos w1]) (hP.pick [] rfl) (hD.sub [] rfl rfl) (Nat.le_of_ble_eq_true rfl) (Nat.le_of_ble_eq_true rfl) dX11_told_47
  by_cases w2 : what = 1
  · refine lv_tableIn (tgt := 48) (off := 47) hx hb dX11_told_1 (by rw [w2]; decide) (by rw [w2]; decide) (by rw [w2]; rfl) (by decide) ?_
    refine lv_aload_n hx hb dX11_told_48 rfl (lv_at hl 0 rfl) ?_
    refine va_get (D := g.1) (ci := 11) (v := .ref a3) (C := RX11) (T := TX11) (N := 15) hx hb hts hi_X11_told_X11 hown hK hP 0 rfl rfl 3 (by decide) (hts (.fieldLink RX11 35 "OilPush" "orders" "LOilPush$Orders;") (by decide +kernel)) (fun _ h => h) rfl dX11_told_49 ?_
    refine va_get (D := g.1) (ci := 3) (v := .int 0) (C := RX3) (T := TX3) (N := 5) hx hb hts hi_X11_told_X3 hown hK hP 2 rfl rfl 4 (by decide) (hts (.fieldLink RX11 244 "OilPush$Orders" "count" "I") (by decide +kernel)) (fun _ h => h) rfl dX11_told_52 ?_
    exact retI C hS () (by unfold r_x_told; rw [if_neg w1, if_pos w2]) (hP.pick [] rfl) (hD.sub [] rfl rfl) (Nat.le_of_ble_eq_true rfl) (Nat.le_of_ble_eq_true rfl) dX11_told_55
  by_cases w3 : what = 2
  · refine lv_tableIn (tgt := 56) (off := 55) hx hb dX11_told_1 (by rw [w3]; decide) (by rw [w3]; decide) (by rw [w3]; rfl) (by decide) ?_
    refine lv_aload_n hx hb dX11_told_56 rfl (lv_at hl 0 rfl) ?_
    refine va_get (D := g.1) (ci := 11) (v := .ref a8) (C := RX11) (T := TX11) (N := 15) hx hb hts hi_X11_told_X11 hown hK hP 0 rfl rfl 8 (by decide) (hts (.fieldLink RX11 55 "OilPush" "readings" "LOilPush$Readings;") (by decide +kernel)) (fun _ h => h) rfl dX11_told_57 ?_
    refine va_get (D := g.1) (ci := 5) (v := .int 0) (C := RX5) (T := TX5) (N := 4) hx hb hts hi_X11_told_X5 hown hK hP 3 rfl rfl 3 (by decide) (hts (.fieldLink RX11 256 "OilPush$Readings" "count" "I") (by decide +kernel)) (fun _ h => h) rfl dX11_told_60 ?_
    exact retI C hS () (by unfold r_x_told; rw [if_neg w1, if_neg w2, if_pos w3]) (hP.pick [] rfl) (hD.sub [] rfl rfl) (Nat.le_of_ble_eq_true rfl) (Nat.le_of_ble_eq_true rfl) dX11_told_63
  by_cases w4 : what = 3
  · refine lv_tableIn (tgt := 64) (off := 63) hx hb dX11_told_1 (by rw [w4]; decide) (by rw [w4]; decide) (by rw [w4]; rfl) (by decide) ?_
    refine lv_aload_n hx hb dX11_told_64 rfl (lv_at hl 0 rfl) ?_
    refine va_get (D := g.1) (ci := 11) (v := .int 0) (C := RX11) (T := TX11) (N := 15) hx hb hts hi_X11_told_X11 hown hK hP 0 rfl rfl 14 (by decide) (hts (.fieldLink RX11 197 "OilPush" "ticks" "I") (by decide +kernel)) (fun _ h => h) rfl dX11_told_65 ?_
    exact retI C hS () (by unfold r_x_told; rw [if_neg w1, if_neg w2, if_neg w3, if_pos w4]) (hP.pick [] rfl) (hD.sub [] rfl rfl) (Nat.le_of_ble_eq_true rfl) (Nat.le_of_ble_eq_true rfl) dX11_told_68
  by_cases w5 : what = 4
  · refine lv_tableIn (tgt := 69) (off := 68) hx hb dX11_told_1 (by rw [w5]; decide) (by rw [w5]; decide) (by rw [w5]; rfl) (by decide) ?_
    refine lv_aload_n hx hb dX11_told_69 rfl (lv_at hl 0 rfl) ?_
    refine va_get (D := g.1) (ci := 11) (v := .ref a0) (C := RX11) (T := TX11) (N := 15) hx hb hts hi_X11_told_X11 hown hK hP 0 rfl rfl 0 (by decide) (hts (.fieldLink RX11 12 "OilPush" "plant" "LOilPush$Plant;") (by decide +kernel)) (fun _ h => h) rfl dX11_told_70 ?_
    refine lv_iconst (v := 1) hx hb dX11_told_73 (by decide) ?_
    refine lv_aload_n hx hb dX11_told_74 rfl (lv_at hl 0 rfl) ?_
    refine va_get (D := g.1) (ci := 11) (v := .ref a1) (C := RX11) (T := TX11) (N := 15) hx hb hts hi_X11_told_X11 hown hK hP 0 rfl rfl 1 (by decide) (hts (.fieldLink RX11 21 "OilPush" "now" "LOilPush$State;") (by decide +kernel)) (fun _ h => h) rfl dX11_told_75 ?_
    refine callIV (As := [.int 1, .ref a1]) (rest := []) (wr := [(h0, .inr (11, [.ref a0, .ref a1, .ref a2, .ref a3, .ref a4, .ref a5, .ref a6, .ref a7, .ref a8, .ref a9, .ref a10, .int 0, .int 0, .int 0, .int 0])), (a3, .inr (3, [.ref ow, .ref oe, .ref ot, .ref ov, .int 0])), (a8, .inr (5, [.ref rt, .ref rf, .ref ro, .int 0]))]) (Cn := RX4) C (c_howMany l g a0 b2 b4 1 a1) 2 gX11_told_X4_howManyAt rfl (by decide +kernel) ⟨(Nat.le_of_ble_eq_true rfl), (Nat.le_of_ble_eq_true rfl)⟩ [1] [0, 2, 3] hP hD hA hS rfl rfl rfl rfl (by decide) (k := 1) (ci := 4) rfl rfl rfl rfl hl.1 rfl (Nat.le_of_ble_eq_true rfl) dX11_told_78 ⟨(Nat.le_of_ble_eq_true rfl), (Nat.le_of_ble_eq_true rfl)⟩ (fun r _u H locs hw hP hD hS => ?_)
    have hP : va_P g.1 vwCl [(h0, .inr (11, [.ref a0, .ref a1, .ref a2, .ref a3, .ref a4, .ref a5, .ref a6, .ref a7, .ref a8, .ref a9, .ref a10, .int 0, .int 0, .int 0, .int 0])), (a3, .inr (3, [.ref ow, .ref oe, .ref ot, .ref ov, .int 0])), (a8, .inr (5, [.ref rt, .ref rf, .ref ro, .int 0]))] H := hP
    have hD : va_D A [(h0, .inr (11, [.ref a0, .ref a1, .ref a2, .ref a3, .ref a4, .ref a5, .ref a6, .ref a7, .ref a8, .ref a9, .ref a10, .int 0, .int 0, .int 0, .int 0])), (a3, .inr (3, [.ref ow, .ref oe, .ref ot, .ref ov, .int 0])), (a8, .inr (5, [.ref rt, .ref rf, .ref ro, .int 0]))] := hD
    subst hw
    exact retI C hS () (by unfold r_x_told; rw [if_neg w1, if_neg w2, if_neg w3, if_neg w4, if_pos w5]) (hP.pick [] rfl) (hD.sub [] rfl rfl) (Nat.le_of_ble_eq_true rfl) (Nat.le_of_ble_eq_true rfl) dX11_told_81
  by_cases w6 : what = 5
  · refine lv_tableIn (tgt := 82) (off := 81) hx hb dX11_told_1 (by rw [w6]; decide) (by rw [w6]; decide) (by rw [w6]; rfl) (by decide) ?_
    refine lv_aload_n hx hb dX11_told_82 rfl (lv_at hl 0 rfl) ?_
    refine va_get (D := g.1) (ci := 11) (v := .ref a0) (C := RX11) (T := TX11) (N := 15) hx hb hts hi_X11_told_X11 hown hK hP 0 rfl rfl 0 (by decide) (hts (.fieldLink RX11 12 "OilPush" "plant" "LOilPush$Plant;") (by decide +kernel)) (fun _ h => h) rfl dX11_told_83 ?_
    refine lv_iconst (v := 2) hx hb dX11_told_86 (by decide) ?_
    refine lv_aload_n hx hb dX11_told_87 rfl (lv_at hl 0 rfl) ?_
    refine va_get (D := g.1) (ci := 11) (v := .ref a1) (C := RX11) (T := TX11) (N := 15) hx hb hts hi_X11_told_X11 hown hK hP 0 rfl rfl 1 (by decide) (hts (.fieldLink RX11 21 "OilPush" "now" "LOilPush$State;") (by decide +kernel)) (fun _ h => h) rfl dX11_told_88 ?_
    refine callIV (As := [.int 2, .ref a1]) (rest := []) (wr := [(h0, .inr (11, [.ref a0, .ref a1, .ref a2, .ref a3, .ref a4, .ref a5, .ref a6, .ref a7, .ref a8, .ref a9, .ref a10, .int 0, .int 0, .int 0, .int 0])), (a3, .inr (3, [.ref ow, .ref oe, .ref ot, .ref ov, .int 0])), (a8, .inr (5, [.ref rt, .ref rf, .ref ro, .int 0]))]) (Cn := RX4) C (c_howMany l g a0 b2 b4 2 a1) 2 gX11_told_X4_howManyAt rfl (by decide +kernel) ⟨(Nat.le_of_ble_eq_true rfl), (Nat.le_of_ble_eq_true rfl)⟩ [1] [0, 2, 3] hP hD hA hS rfl rfl rfl rfl (by decide) (k := 1) (ci := 4) rfl rfl rfl rfl hl.1 rfl (Nat.le_of_ble_eq_true rfl) dX11_told_91 ⟨(Nat.le_of_ble_eq_true rfl), (Nat.le_of_ble_eq_true rfl)⟩ (fun r _u H locs hw hP hD hS => ?_)
    have hP : va_P g.1 vwCl [(h0, .inr (11, [.ref a0, .ref a1, .ref a2, .ref a3, .ref a4, .ref a5, .ref a6, .ref a7, .ref a8, .ref a9, .ref a10, .int 0, .int 0, .int 0, .int 0])), (a3, .inr (3, [.ref ow, .ref oe, .ref ot, .ref ov, .int 0])), (a8, .inr (5, [.ref rt, .ref rf, .ref ro, .int 0]))] H := hP
    have hD : va_D A [(h0, .inr (11, [.ref a0, .ref a1, .ref a2, .ref a3, .ref a4, .ref a5, .ref a6, .ref a7, .ref a8, .ref a9, .ref a10, .int 0, .int 0, .int 0, .int 0])), (a3, .inr (3, [.ref ow, .ref oe, .ref ot, .ref ov, .int 0])), (a8, .inr (5, [.ref rt, .ref rf, .ref ro, .int 0]))] := hD
    subst hw
    exact retI C hS () (by unfold r_x_told; rw [if_neg w1, if_neg w2, if_neg w3, if_neg w4, if_neg w5, if_pos w6]) (hP.pick [] rfl) (hD.sub [] rfl rfl) (Nat.le_of_ble_eq_true rfl) (Nat.le_of_ble_eq_true rfl) dX11_told_94
  refine lv_tableOut (tgt := 95) hx hb dX11_told_1 (sw5 w1 w2 w3 w4 w5 w6) (by decide) ?_
  refine lv_bipush (v := -2) hx hb dX11_told_95 (by decide) ?_
  exact retI C hS () (by unfold r_x_told; rw [if_neg w1, if_neg w2, if_neg w3, if_neg w4, if_neg w5, if_neg w6]) (hP.pick [] rfl) (hD.sub [] rfl rfl) (Nat.le_of_ble_eq_true rfl) (Nat.le_of_ble_eq_true rfl) dX11_told_97
theorem hi_X4_add_X0 : ∀ w ∈ wsX00, w ∈ wsX4_add := fun w h => List.mem_cons_of_mem _ (List.mem_append_left _ (List.mem_append_left _ (List.mem_append_right _ h)))
theorem hi_X4_add_X10 : ∀ w ∈ wsX100, w ∈ wsX4_add := fun w h => List.mem_cons_of_mem _ (List.mem_append_right _ h)
theorem hi_X4_add_X2 : ∀ w ∈ wsX20, w ∈ wsX4_add := fun w h => List.mem_cons_of_mem _ (List.mem_append_left _ (List.mem_append_right _ h))
theorem hi_X4_add_X4 : ∀ w ∈ wsX40, w ∈ wsX4_add := fun w h => List.mem_cons_of_mem _ (List.mem_append_left _ (List.mem_append_left _ (List.mem_append_left _ (List.mem_append_right _ h))))
set_option maxRecDepth 100000 in
set_option maxHeartbeats 4000000 in
theorem c_add (l : Launch) (g : Gt) (a0 : Nat) (b2 : Nat) (b4 : Nat) (kind : Int32) (area : Int32) (stroke : Int32)  : Ctr l g yX4_add wsX4_add ({ frames := 4, cells := 2, slots := 17, locals := 81 } : Room) [.ref a0, .int kind, .int area, .int stroke] [(a0, .inr (4, [.int 0, .int 100, .ref b2, .int 0, .ref b4])), (b2, .inl (g.2 3, 6, .inr (.inr (.inr (.inr (fun _ => none))))))] (fun A => QI g A (fun r (_ : Unit) => r = 1) (fun _u : Unit => [(a0, .inr (4, [.int 0, .int 100, .ref b2, .int 1, .ref b4]))])) := by
  refine Ctr.of (cc := cX4_add) (maxL := 4) (ret := (some .boolean)) (by decide) rfl (Nat.le_of_ble_eq_true rfl) ?_
  intro p e s m below meth c A ls H C hP hD hA hS hl
  obtain ⟨hx, hb, hr, hts, hown, hlocks, hml, hin, hKN⟩ := id C
  have hK := hKN.1
  have hN := hKN.2
  have F : CallFix p m c cX4_add 4 s _ wsX4_add yX4_add.cls := ⟨hx, hb, hml, hown, hts⟩
  have hl : lv_has ls 4 [(0, .ref a0), (1, .int kind), (2, .int area), (3, .int stroke)] := hl
  refine lv_aload_n hx hb dX4_add_0 rfl (lv_at hl 0 rfl) ?_
  refine va_get (D := g.1) (ci := 4) (v := .int 0) (C := RX4) (T := TX4) (N := 5) hx hb hts hi_X4_add_X4 hown hK hP 0 rfl rfl 3 (by decide) (hts (.fieldLink RX4 25 "OilPush$Plant" "count" "I") (by decide +kernel)) (fun _ h => h) rfl dX4_add_1 ?_
  refine lv_if_lt (tgt := 19) hx hb dX4_add_4 (by decide) (fun cc0 => absurd cc0 (by decide)) (fun _ => ?_)
  refine lv_aload_n hx hb dX4_add_7 rfl (lv_at hl 0 rfl) ?_
  refine va_get (D := g.1) (ci := 4) (v := .int 0) (C := RX4) (T := TX4) (N := 5) hx hb hts hi_X4_add_X4 hown hK hP 0 rfl rfl 3 (by decide) (hts (.fieldLink RX4 25 "OilPush$Plant" "count" "I") (by decide +kernel)) (fun _ h => h) rfl dX4_add_8 ?_
  refine lv_aload_n hx hb dX4_add_11 rfl (lv_at hl 0 rfl) ?_
  refine va_get (D := g.1) (ci := 4) (v := .ref b2) (C := RX4) (T := TX4) (N := 5) hx hb hts hi_X4_add_X4 hown hK hP 0 rfl rfl 2 (by decide) (hts (.fieldLink RX4 17 "OilPush$Plant" "cylinders" "[LOilPush$Cylinder;") (by decide +kernel)) (fun _ h => h) rfl dX4_add_12 ?_
  refine va_alen (v := 6) hx hb hK hP 1 3 rfl rfl rfl dX4_add_15 ?_
  refine lv_icmp_lt (tgt := 21) hx hb dX4_add_16 (by decide) (fun _ => ?_) (fun cc0 => absurd cc0 (by decide))
  refine lv_iload_n hx hb dX4_add_21 rfl (lv_at hl 1 rfl) ?_
  refine lv_if_ne (tgt := 50) hx hb dX4_add_22 (by decide) (fun c1 => ?_) (fun c1 => ?_)
  · refine lv_iload_n hx hb dX4_add_50 rfl (lv_at hl 1 rfl) ?_
    refine lv_iconst (v := 1) hx hb dX4_add_51 (by decide) ?_
    refine lv_icmp_ne (tgt := 80) hx hb dX4_add_52 (by decide) (fun c2 => ?_) (fun c2 => ?_)
    · refine lv_aload_n hx hb dX4_add_80 rfl (lv_at hl 0 rfl) ?_
      refine va_get (D := g.1) (ci := 4) (v := .ref b2) (C := RX4) (T := TX4) (N := 5) hx hb hts hi_X4_add_X4 hown hK hP 0 rfl rfl 2 (by decide) (hts (.fieldLink RX4 17 "OilPush$Plant" "cylinders" "[LOilPush$Cylinder;") (by decide +kernel)) (fun _ h => h) rfl dX4_add_81 ?_
      refine lv_aload_n hx hb dX4_add_84 rfl (lv_at hl 0 rfl) ?_
      refine va_get (D := g.1) (ci := 4) (v := .int 0) (C := RX4) (T := TX4) (N := 5) hx hb hts hi_X4_add_X4 hown hK hP 0 rfl rfl 3 (by decide) (hts (.fieldLink RX4 25 "OilPush$Plant" "count" "I") (by decide +kernel)) (fun _ h => h) rfl dX4_add_85 ?_
      refine va_new (ci := 10) (fs := [.int 0, .int 0, .int 0, .null, .int 0, .int 0, .int 0]) (C := RX10) (T := TX10) (N := 7) hx hb hts hi_X4_add_X10 tyX10 tyX10_ok hown (hts (.classLink RX4 34 RX10) (by decide +kernel)) (hts (.instantiable RX10 7) (by decide +kernel)) (hts (.initialized RX10) (by decide +kernel)) hK hP hD hS hA rfl (nwX10) (Nat.le_of_ble_eq_true rfl) (Nat.le_of_ble_eq_true rfl) dX4_add_88 (fun q3 H hP hD hS => ?_)
      refine W.widen (k := 1) (n := 7) (Nat.le_of_ble_eq_true rfl) (Nat.le_of_ble_eq_true rfl) ?_
      have hP : va_P g.1 vwCl [(a0, .inr (4, [.int 0, .int 100, .ref b2, .int 0, .ref b4])), (b2, .inl (g.2 3, 6, .inr (.inr (.inr (.inr (fun _ => none)))))), (q3, .inr (10, [.int 0, .int 0, .int 0, .null, .int 0, .int 0, .int 0]))] H := hP
      have hD : va_D A [(a0, .inr (4, [.int 0, .int 100, .ref b2, .int 0, .ref b4])), (b2, .inl (g.2 3, 6, .inr (.inr (.inr (.inr (fun _ => none)))))), (q3, .inr (10, [.int 0, .int 0, .int 0, .null, .int 0, .int 0, .int 0]))] := hD
      refine lv_dup hx hb dX4_add_91 rfl ?_
      refine lv_aload_n hx hb dX4_add_92 rfl (lv_at hl 0 rfl) ?_
      refine va_get (D := g.1) (ci := 4) (v := .int 0) (C := RX4) (T := TX4) (N := 5) hx hb hts hi_X4_add_X4 hown hK hP 0 rfl rfl 3 (by decide) (hts (.fieldLink RX4 25 "OilPush$Plant" "count" "I") (by decide +kernel)) (fun _ h => h) rfl dX4_add_93 ?_
      refine lv_iload_n hx hb dX4_add_96 rfl (lv_at hl 2 rfl) ?_
      refine lv_iload_n hx hb dX4_add_97 rfl (lv_at hl 3 rfl) ?_
      refine callVI (As := [.int 0, .int area, .int stroke]) (rest := [.ref q3, .int 0, .ref b2]) (wr := [(a0, .inr (4, [.int 0, .int 100, .ref b2, .int 0, .ref b4])), (b2, .inl (g.2 3, 6, .inr (.inr (.inr (.inr (fun _ => none))))))]) C (c_X10_init l g q3 0 area stroke) 3 gX4_add_X10_init rfl (by decide +kernel) (by decide +kernel) (by decide +kernel) rfl (by decide +kernel) ⟨(Nat.le_of_ble_eq_true rfl), (Nat.le_of_ble_eq_true rfl)⟩ [2] [0, 1] hP hD hA hS rfl rfl rfl rfl (by decide) rfl hl.1 rfl (Nat.le_of_ble_eq_true rfl) dX4_add_98 ⟨(Nat.le_of_ble_eq_true rfl), (Nat.le_of_ble_eq_true rfl)⟩ (fun u4 H locs hw hP hD hS => ?_)
      refine W.widen (k := 2) (n := 17) (Nat.le_of_ble_eq_true rfl) (Nat.le_of_ble_eq_true rfl) ?_
      have hP : va_P g.1 vwCl [(a0, .inr (4, [.int 0, .int 100, .ref b2, .int 0, .ref b4])), (b2, .inl (g.2 3, 6, .inr (.inr (.inr (.inr (fun _ => none)))))), (q3, .inr (10, [.int 0, .int area, .int stroke, .ref (u4 0), .int 1, .int 0, .int 1000])), ((u4 0), .inl (g.2 0, 10, .inl z0))] H := hP
      have hD : va_D A [(a0, .inr (4, [.int 0, .int 100, .ref b2, .int 0, .ref b4])), (b2, .inl (g.2 3, 6, .inr (.inr (.inr (.inr (fun _ => none)))))), (q3, .inr (10, [.int 0, .int area, .int stroke, .ref (u4 0), .int 1, .int 0, .int 1000])), ((u4 0), .inl (g.2 0, 10, .inl z0))] := hD
      refine va_astqO (E := "OilPush$Cylinder") hx hb hK hP hD hS 1 3 2 10 rfl rfl hN.2.2.2.2.1 rfl rfl (by unfold vp_in; decide +kernel) dX4_add_101 (fun H locs hP hD hS => ?_)
      have hP : va_P g.1 vwCl [(a0, .inr (4, [.int 0, .int 100, .ref b2, .int 0, .ref b4])), (b2, .inl (g.2 3, 6, .inr (.inr (.inr (.inr (va_up (fun _ => none) 0 (some q3))))))), (q3, .inr (10, [.int 0, .int area, .int stroke, .ref (u4 0), .int 1, .int 0, .int 1000])), ((u4 0), .inl (g.2 0, 10, .inl z0))] H := hP
      have hD : va_D A [(a0, .inr (4, [.int 0, .int 100, .ref b2, .int 0, .ref b4])), (b2, .inl (g.2 3, 6, .inr (.inr (.inr (.inr (va_up (fun _ => none) 0 (some q3))))))), (q3, .inr (10, [.int 0, .int area, .int stroke, .ref (u4 0), .int 1, .int 0, .int 1000])), ((u4 0), .inl (g.2 0, 10, .inl z0))] := hD
      refine lv_aload_n hx hb dX4_add_102 rfl (lv_at hl 0 rfl) ?_
      refine lv_dup hx hb dX4_add_103 rfl ?_
      refine va_get (D := g.1) (ci := 4) (v := .int 0) (C := RX4) (T := TX4) (N := 5) hx hb hts hi_X4_add_X4 hown hK hP 0 rfl rfl 3 (by decide) (hts (.fieldLink RX4 25 "OilPush$Plant" "count" "I") (by decide +kernel)) (fun _ h => h) rfl dX4_add_104 ?_
      refine lv_iconst (v := 1) hx hb dX4_add_107 (by decide) ?_
      refine lv_iadd hx hb dX4_add_108 ?_
      refine nx_i (v := 1) (by decide) ?_
      refine va_put (D := g.1) (ci := 4) (v := .int 1) (ty := .int) (C := RX4) (T := TX4) (N := 5) hx hb hts hi_X4_add_X4 tyX4 tyX4_ok nmX4 hown hK hP hD hS 0 rfl rfl 3 (by decide) (hts (.fieldLink RX4 25 "OilPush$Plant" "count" "I") (by decide +kernel)) (fun _ h => h) rfl (by decide +kernel) rfl rfl (Nat.le_of_ble_eq_true rfl) dX4_add_109 (fun H locs hP hD hS => ?_)
      have hP : va_P g.1 vwCl [(a0, .inr (4, [.int 0, .int 100, .ref b2, .int 1, .ref b4])), (b2, .inl (g.2 3, 6, .inr (.inr (.inr (.inr (va_up (fun _ => none) 0 (some q3))))))), (q3, .inr (10, [.int 0, .int area, .int stroke, .ref (u4 0), .int 1, .int 0, .int 1000])), ((u4 0), .inl (g.2 0, 10, .inl z0))] H := hP
      have hD : va_D A [(a0, .inr (4, [.int 0, .int 100, .ref b2, .int 1, .ref b4])), (b2, .inl (g.2 3, 6, .inr (.inr (.inr (.inr (va_up (fun _ => none) 0 (some q3))))))), (q3, .inr (10, [.int 0, .int area, .int stroke, .ref (u4 0), .int 1, .int 0, .int 1000])), ((u4 0), .inl (g.2 0, 10, .inl z0))] := hD
      refine lv_iconst (v := 1) hx hb dX4_add_112 (by decide) ?_
      exact retZ C rfl hS () rfl (hP.pick [0] rfl) (hD.sub [0] rfl rfl) (Nat.le_of_ble_eq_true rfl) (Nat.le_of_ble_eq_true rfl) dX4_add_113
    refine lv_aload_n hx hb dX4_add_55 rfl (lv_at hl 0 rfl) ?_
    refine va_get (D := g.1) (ci := 4) (v := .ref b2) (C := RX4) (T := TX4) (N := 5) hx hb hts hi_X4_add_X4 hown hK hP 0 rfl rfl 2 (by decide) (hts (.fieldLink RX4 17 "OilPush$Plant" "cylinders" "[LOilPush$Cylinder;") (by decide +kernel)) (fun _ h => h) rfl dX4_add_56 ?_
    refine lv_aload_n hx hb dX4_add_59 rfl (lv_at hl 0 rfl) ?_
    refine va_get (D := g.1) (ci := 4) (v := .int 0) (C := RX4) (T := TX4) (N := 5) hx hb hts hi_X4_add_X4 hown hK hP 0 rfl rfl 3 (by decide) (hts (.fieldLink RX4 25 "OilPush$Plant" "count" "I") (by decide +kernel)) (fun _ h => h) rfl dX4_add_60 ?_
    refine va_new (ci := 2) (fs := [.int 0, .int 0, .int 0, .null, .int 0, .int 0, .int 0]) (C := RX2) (T := TX2) (N := 7) hx hb hts hi_X4_add_X2 tyX2 tyX2_ok hown (hts (.classLink RX4 31 RX2) (by decide +kernel)) (hts (.instantiable RX2 7) (by decide +kernel)) (hts (.initialized RX2) (by decide +kernel)) hK hP hD hS hA rfl (nwX2) (Nat.le_of_ble_eq_true rfl) (Nat.le_of_ble_eq_true rfl) dX4_add_63 (fun q5 H hP hD hS => ?_)
    refine W.widen (k := 1) (n := 7) (Nat.le_of_ble_eq_true rfl) (Nat.le_of_ble_eq_true rfl) ?_
    have hP : va_P g.1 vwCl [(a0, .inr (4, [.int 0, .int 100, .ref b2, .int 0, .ref b4])), (b2, .inl (g.2 3, 6, .inr (.inr (.inr (.inr (fun _ => none)))))), (q5, .inr (2, [.int 0, .int 0, .int 0, .null, .int 0, .int 0, .int 0]))] H := hP
    have hD : va_D A [(a0, .inr (4, [.int 0, .int 100, .ref b2, .int 0, .ref b4])), (b2, .inl (g.2 3, 6, .inr (.inr (.inr (.inr (fun _ => none)))))), (q5, .inr (2, [.int 0, .int 0, .int 0, .null, .int 0, .int 0, .int 0]))] := hD
    refine lv_dup hx hb dX4_add_66 rfl ?_
    refine lv_aload_n hx hb dX4_add_67 rfl (lv_at hl 0 rfl) ?_
    refine va_get (D := g.1) (ci := 4) (v := .int 0) (C := RX4) (T := TX4) (N := 5) hx hb hts hi_X4_add_X4 hown hK hP 0 rfl rfl 3 (by decide) (hts (.fieldLink RX4 25 "OilPush$Plant" "count" "I") (by decide +kernel)) (fun _ h => h) rfl dX4_add_68 ?_
    refine lv_iload_n hx hb dX4_add_71 rfl (lv_at hl 2 rfl) ?_
    refine lv_iload_n hx hb dX4_add_72 rfl (lv_at hl 3 rfl) ?_
    refine callVI (As := [.int 0, .int area, .int stroke]) (rest := [.ref q5, .int 0, .ref b2]) (wr := [(a0, .inr (4, [.int 0, .int 100, .ref b2, .int 0, .ref b4])), (b2, .inl (g.2 3, 6, .inr (.inr (.inr (.inr (fun _ => none))))))]) C (c_X2_init_X2 l g q5 0 area stroke) 3 gX4_add_X2_init rfl (by decide +kernel) (by decide +kernel) (by decide +kernel) rfl (by decide +kernel) ⟨(Nat.le_of_ble_eq_true rfl), (Nat.le_of_ble_eq_true rfl)⟩ [2] [0, 1] hP hD hA hS rfl rfl rfl rfl (by decide) rfl hl.1 rfl (Nat.le_of_ble_eq_true rfl) dX4_add_73 ⟨(Nat.le_of_ble_eq_true rfl), (Nat.le_of_ble_eq_true rfl)⟩ (fun u6 H locs hw hP hD hS => ?_)
    refine W.widen (k := 2) (n := 17) (Nat.le_of_ble_eq_true rfl) (Nat.le_of_ble_eq_true rfl) ?_
    have hP : va_P g.1 vwCl [(a0, .inr (4, [.int 0, .int 100, .ref b2, .int 0, .ref b4])), (b2, .inl (g.2 3, 6, .inr (.inr (.inr (.inr (fun _ => none)))))), (q5, .inr (2, [.int 0, .int area, .int stroke, .ref (u6 0), .int 1, .int 0, .int 1000])), ((u6 0), .inl (g.2 0, 10, .inl z0))] H := hP
    have hD : va_D A [(a0, .inr (4, [.int 0, .int 100, .ref b2, .int 0, .ref b4])), (b2, .inl (g.2 3, 6, .inr (.inr (.inr (.inr (fun _ => none)))))), (q5, .inr (2, [.int 0, .int area, .int stroke, .ref (u6 0), .int 1, .int 0, .int 1000])), ((u6 0), .inl (g.2 0, 10, .inl z0))] := hD
    refine va_astqO (E := "OilPush$Cylinder") hx hb hK hP hD hS 1 3 2 2 rfl rfl hN.2.2.2.1 rfl rfl (by unfold vp_in; decide +kernel) dX4_add_76 (fun H locs hP hD hS => ?_)
    have hP : va_P g.1 vwCl [(a0, .inr (4, [.int 0, .int 100, .ref b2, .int 0, .ref b4])), (b2, .inl (g.2 3, 6, .inr (.inr (.inr (.inr (va_up (fun _ => none) 0 (some q5))))))), (q5, .inr (2, [.int 0, .int area, .int stroke, .ref (u6 0), .int 1, .int 0, .int 1000])), ((u6 0), .inl (g.2 0, 10, .inl z0))] H := hP
    have hD : va_D A [(a0, .inr (4, [.int 0, .int 100, .ref b2, .int 0, .ref b4])), (b2, .inl (g.2 3, 6, .inr (.inr (.inr (.inr (va_up (fun _ => none) 0 (some q5))))))), (q5, .inr (2, [.int 0, .int area, .int stroke, .ref (u6 0), .int 1, .int 0, .int 1000])), ((u6 0), .inl (g.2 0, 10, .inl z0))] := hD
    refine lv_goto (tgt := 102) hx hb dX4_add_77 (by decide) ?_
    refine lv_aload_n hx hb dX4_add_102 rfl (lv_at hl 0 rfl) ?_
    refine lv_dup hx hb dX4_add_103 rfl ?_
    refine va_get (D := g.1) (ci := 4) (v := .int 0) (C := RX4) (T := TX4) (N := 5) hx hb hts hi_X4_add_X4 hown hK hP 0 rfl rfl 3 (by decide) (hts (.fieldLink RX4 25 "OilPush$Plant" "count" "I") (by decide +kernel)) (fun _ h => h) rfl dX4_add_104 ?_
    refine lv_iconst (v := 1) hx hb dX4_add_107 (by decide) ?_
    refine lv_iadd hx hb dX4_add_108 ?_
    refine nx_i (v := 1) (by decide) ?_
    refine va_put (D := g.1) (ci := 4) (v := .int 1) (ty := .int) (C := RX4) (T := TX4) (N := 5) hx hb hts hi_X4_add_X4 tyX4 tyX4_ok nmX4 hown hK hP hD hS 0 rfl rfl 3 (by decide) (hts (.fieldLink RX4 25 "OilPush$Plant" "count" "I") (by decide +kernel)) (fun _ h => h) rfl (by decide +kernel) rfl rfl (Nat.le_of_ble_eq_true rfl) dX4_add_109 (fun H locs hP hD hS => ?_)
    have hP : va_P g.1 vwCl [(a0, .inr (4, [.int 0, .int 100, .ref b2, .int 1, .ref b4])), (b2, .inl (g.2 3, 6, .inr (.inr (.inr (.inr (va_up (fun _ => none) 0 (some q5))))))), (q5, .inr (2, [.int 0, .int area, .int stroke, .ref (u6 0), .int 1, .int 0, .int 1000])), ((u6 0), .inl (g.2 0, 10, .inl z0))] H := hP
    have hD : va_D A [(a0, .inr (4, [.int 0, .int 100, .ref b2, .int 1, .ref b4])), (b2, .inl (g.2 3, 6, .inr (.inr (.inr (.inr (va_up (fun _ => none) 0 (some q5))))))), (q5, .inr (2, [.int 0, .int area, .int stroke, .ref (u6 0), .int 1, .int 0, .int 1000])), ((u6 0), .inl (g.2 0, 10, .inl z0))] := hD
    refine lv_iconst (v := 1) hx hb dX4_add_112 (by decide) ?_
    exact retZ C rfl hS () rfl (hP.pick [0] rfl) (hD.sub [0] rfl rfl) (Nat.le_of_ble_eq_true rfl) (Nat.le_of_ble_eq_true rfl) dX4_add_113
  refine lv_aload_n hx hb dX4_add_25 rfl (lv_at hl 0 rfl) ?_
  refine va_get (D := g.1) (ci := 4) (v := .ref b2) (C := RX4) (T := TX4) (N := 5) hx hb hts hi_X4_add_X4 hown hK hP 0 rfl rfl 2 (by decide) (hts (.fieldLink RX4 17 "OilPush$Plant" "cylinders" "[LOilPush$Cylinder;") (by decide +kernel)) (fun _ h => h) rfl dX4_add_26 ?_
  refine lv_aload_n hx hb dX4_add_29 rfl (lv_at hl 0 rfl) ?_
  refine va_get (D := g.1) (ci := 4) (v := .int 0) (C := RX4) (T := TX4) (N := 5) hx hb hts hi_X4_add_X4 hown hK hP 0 rfl rfl 3 (by decide) (hts (.fieldLink RX4 25 "OilPush$Plant" "count" "I") (by decide +kernel)) (fun _ h => h) rfl dX4_add_30 ?_
  refine va_new (ci := 0) (fs := [.int 0, .int 0, .int 0, .null, .int 0, .int 0, .int 0]) (C := RX0) (T := TX0) (N := 7) hx hb hts hi_X4_add_X0 tyX0 tyX0_ok hown (hts (.classLink RX4 15 RX0) (by decide +kernel)) (hts (.instantiable RX0 7) (by decide +kernel)) (hts (.initialized RX0) (by decide +kernel)) hK hP hD hS hA rfl (nwX0) (Nat.le_of_ble_eq_true rfl) (Nat.le_of_ble_eq_true rfl) dX4_add_33 (fun q7 H hP hD hS => ?_)
  refine W.widen (k := 1) (n := 7) (Nat.le_of_ble_eq_true rfl) (Nat.le_of_ble_eq_true rfl) ?_
  have hP : va_P g.1 vwCl [(a0, .inr (4, [.int 0, .int 100, .ref b2, .int 0, .ref b4])), (b2, .inl (g.2 3, 6, .inr (.inr (.inr (.inr (fun _ => none)))))), (q7, .inr (0, [.int 0, .int 0, .int 0, .null, .int 0, .int 0, .int 0]))] H := hP
  have hD : va_D A [(a0, .inr (4, [.int 0, .int 100, .ref b2, .int 0, .ref b4])), (b2, .inl (g.2 3, 6, .inr (.inr (.inr (.inr (fun _ => none)))))), (q7, .inr (0, [.int 0, .int 0, .int 0, .null, .int 0, .int 0, .int 0]))] := hD
  refine lv_dup hx hb dX4_add_36 rfl ?_
  refine lv_aload_n hx hb dX4_add_37 rfl (lv_at hl 0 rfl) ?_
  refine va_get (D := g.1) (ci := 4) (v := .int 0) (C := RX4) (T := TX4) (N := 5) hx hb hts hi_X4_add_X4 hown hK hP 0 rfl rfl 3 (by decide) (hts (.fieldLink RX4 25 "OilPush$Plant" "count" "I") (by decide +kernel)) (fun _ h => h) rfl dX4_add_38 ?_
  refine lv_iload_n hx hb dX4_add_41 rfl (lv_at hl 2 rfl) ?_
  refine lv_iload_n hx hb dX4_add_42 rfl (lv_at hl 3 rfl) ?_
  refine callVI (As := [.int 0, .int area, .int stroke]) (rest := [.ref q7, .int 0, .ref b2]) (wr := [(a0, .inr (4, [.int 0, .int 100, .ref b2, .int 0, .ref b4])), (b2, .inl (g.2 3, 6, .inr (.inr (.inr (.inr (fun _ => none))))))]) C (c_X0_init_X0 l g q7 0 area stroke) 3 gX4_add_X0_init rfl (by decide +kernel) (by decide +kernel) (by decide +kernel) rfl (by decide +kernel) ⟨(Nat.le_of_ble_eq_true rfl), (Nat.le_of_ble_eq_true rfl)⟩ [2] [0, 1] hP hD hA hS rfl rfl rfl rfl (by decide) rfl hl.1 rfl (Nat.le_of_ble_eq_true rfl) dX4_add_43 ⟨(Nat.le_of_ble_eq_true rfl), (Nat.le_of_ble_eq_true rfl)⟩ (fun u8 H locs hw hP hD hS => ?_)
  refine W.widen (k := 2) (n := 17) (Nat.le_of_ble_eq_true rfl) (Nat.le_of_ble_eq_true rfl) ?_
  have hP : va_P g.1 vwCl [(a0, .inr (4, [.int 0, .int 100, .ref b2, .int 0, .ref b4])), (b2, .inl (g.2 3, 6, .inr (.inr (.inr (.inr (fun _ => none)))))), (q7, .inr (0, [.int 0, .int area, .int stroke, .ref (u8 0), .int 1, .int 0, .int 1000])), ((u8 0), .inl (g.2 0, 10, .inl z0))] H := hP
  have hD : va_D A [(a0, .inr (4, [.int 0, .int 100, .ref b2, .int 0, .ref b4])), (b2, .inl (g.2 3, 6, .inr (.inr (.inr (.inr (fun _ => none)))))), (q7, .inr (0, [.int 0, .int area, .int stroke, .ref (u8 0), .int 1, .int 0, .int 1000])), ((u8 0), .inl (g.2 0, 10, .inl z0))] := hD
  refine va_astq hx hb hK hP hD hS 1 3 2 0 rfl rfl rfl rfl (by unfold vp_in; decide +kernel) dX4_add_46 (fun H locs hP hD hS => ?_)
  have hP : va_P g.1 vwCl [(a0, .inr (4, [.int 0, .int 100, .ref b2, .int 0, .ref b4])), (b2, .inl (g.2 3, 6, .inr (.inr (.inr (.inr (va_up (fun _ => none) 0 (some q7))))))), (q7, .inr (0, [.int 0, .int area, .int stroke, .ref (u8 0), .int 1, .int 0, .int 1000])), ((u8 0), .inl (g.2 0, 10, .inl z0))] H := hP
  have hD : va_D A [(a0, .inr (4, [.int 0, .int 100, .ref b2, .int 0, .ref b4])), (b2, .inl (g.2 3, 6, .inr (.inr (.inr (.inr (va_up (fun _ => none) 0 (some q7))))))), (q7, .inr (0, [.int 0, .int area, .int stroke, .ref (u8 0), .int 1, .int 0, .int 1000])), ((u8 0), .inl (g.2 0, 10, .inl z0))] := hD
  refine lv_goto (tgt := 102) hx hb dX4_add_47 (by decide) ?_
  refine lv_aload_n hx hb dX4_add_102 rfl (lv_at hl 0 rfl) ?_
  refine lv_dup hx hb dX4_add_103 rfl ?_
  refine va_get (D := g.1) (ci := 4) (v := .int 0) (C := RX4) (T := TX4) (N := 5) hx hb hts hi_X4_add_X4 hown hK hP 0 rfl rfl 3 (by decide) (hts (.fieldLink RX4 25 "OilPush$Plant" "count" "I") (by decide +kernel)) (fun _ h => h) rfl dX4_add_104 ?_
  refine lv_iconst (v := 1) hx hb dX4_add_107 (by decide) ?_
  refine lv_iadd hx hb dX4_add_108 ?_
  refine nx_i (v := 1) (by decide) ?_
  refine va_put (D := g.1) (ci := 4) (v := .int 1) (ty := .int) (C := RX4) (T := TX4) (N := 5) hx hb hts hi_X4_add_X4 tyX4 tyX4_ok nmX4 hown hK hP hD hS 0 rfl rfl 3 (by decide) (hts (.fieldLink RX4 25 "OilPush$Plant" "count" "I") (by decide +kernel)) (fun _ h => h) rfl (by decide +kernel) rfl rfl (Nat.le_of_ble_eq_true rfl) dX4_add_109 (fun H locs hP hD hS => ?_)
  have hP : va_P g.1 vwCl [(a0, .inr (4, [.int 0, .int 100, .ref b2, .int 1, .ref b4])), (b2, .inl (g.2 3, 6, .inr (.inr (.inr (.inr (va_up (fun _ => none) 0 (some q7))))))), (q7, .inr (0, [.int 0, .int area, .int stroke, .ref (u8 0), .int 1, .int 0, .int 1000])), ((u8 0), .inl (g.2 0, 10, .inl z0))] H := hP
  have hD : va_D A [(a0, .inr (4, [.int 0, .int 100, .ref b2, .int 1, .ref b4])), (b2, .inl (g.2 3, 6, .inr (.inr (.inr (.inr (va_up (fun _ => none) 0 (some q7))))))), (q7, .inr (0, [.int 0, .int area, .int stroke, .ref (u8 0), .int 1, .int 0, .int 1000])), ((u8 0), .inl (g.2 0, 10, .inl z0))] := hD
  refine lv_iconst (v := 1) hx hb dX4_add_112 (by decide) ?_
  exact retZ C rfl hS () rfl (hP.pick [0] rfl) (hD.sub [0] rfl rfl) (Nat.le_of_ble_eq_true rfl) (Nat.le_of_ble_eq_true rfl) dX4_add_113
theorem hi_X11_cylinder_X11 : ∀ w ∈ wsX110, w ∈ wsX11_cylinder := fun w h => List.mem_cons_of_mem _ (List.mem_append_left _ (List.mem_append_left _ (List.mem_append_left _ (List.mem_append_left _ (List.mem_append_right _ h)))))
theorem hi_X11_cylinder_X4 : ∀ w ∈ wsX40, w ∈ wsX11_cylinder := fun w h => List.mem_cons_of_mem _ (List.mem_append_left _ (List.mem_append_left _ (List.mem_append_left _ (List.mem_append_right _ h))))
def r_x_cylinder (kind : Int32) (area : Int32) (stroke : Int32) : Int32 := (if (r_c_within kind 0 2) = 0 then (-2) else (if (r_c_within area 1 100) = 0 then (-2) else (if (r_c_within stroke 1 100) = 0 then (-2) else 0)))
set_option maxRecDepth 100000 in
set_option maxHeartbeats 4000000 in
theorem x_cylinder (l : Launch) (g : Gt) (h0 : Nat) (a0 : Nat) (a1 : Nat) (a2 : Nat) (a3 : Nat) (a4 : Nat) (a5 : Nat) (a6 : Nat) (a7 : Nat) (a8 : Nat) (a9 : Nat) (a10 : Nat) (b2 : Nat) (b4 : Nat) (kind : Int32) (area : Int32) (stroke : Int32)  : Ctr l g yX11_cylinder wsX11_cylinder ({ frames := 5, cells := 2, slots := 17, locals := 104 } : Room) [.ref h0, .int kind, .int area, .int stroke] [(h0, .inr (11, [.ref a0, .ref a1, .ref a2, .ref a3, .ref a4, .ref a5, .ref a6, .ref a7, .ref a8, .ref a9, .ref a10, .int 0, .int 0, .int 0, .int 0])), (a0, .inr (4, [.int 0, .int 100, .ref b2, .int 0, .ref b4])), (b2, .inl (g.2 3, 6, .inr (.inr (.inr (.inr (fun _ => none))))))] (fun A => QI g A (fun r (_ : Unit) => r = (r_x_cylinder kind area stroke)) (fun _u : Unit => [])) := by
  refine Ctr.of (cc := cX11_cylinder) (maxL := 4) (ret := (some .int)) (by decide) rfl (Nat.le_of_ble_eq_true rfl) ?_
  intro p e s m below meth c A ls H C hP hD hA hS hl
  obtain ⟨hx, hb, hr, hts, hown, hlocks, hml, hin, hKN⟩ := id C
  have hK := hKN.1
  have hN := hKN.2
  have F : CallFix p m c cX11_cylinder 4 s _ wsX11_cylinder yX11_cylinder.cls := ⟨hx, hb, hml, hown, hts⟩
  have hl : lv_has ls 4 [(0, .ref h0), (1, .int kind), (2, .int area), (3, .int stroke)] := hl
  refine lv_iload_n hx hb dX11_cylinder_0 rfl (lv_at hl 1 rfl) ?_
  refine lv_iconst (v := 0) hx hb dX11_cylinder_1 (by decide) ?_
  refine lv_iconst (v := 2) hx hb dX11_cylinder_2 (by decide) ?_
  refine pureIS (As := [.int kind, .int 0, .int 2]) (rest := []) F (c_within l kind 0 2) 3 gX11_cylinder_X11_within rfl (by decide +kernel) rfl rfl ⟨(Nat.le_of_ble_eq_true rfl), (Nat.le_of_ble_eq_true rfl)⟩ (Nat.le_of_ble_eq_true rfl) (Nat.le_of_ble_eq_true rfl) rfl hl.1 rfl (Nat.le_of_ble_eq_true rfl) dX11_cylinder_3 ?_
  refine lv_if_eq (tgt := 29) hx hb dX11_cylinder_6 (by decide) (fun c1 => ?_) (fun c1 => ?_)
  · refine lv_bipush (v := -2) hx hb dX11_cylinder_29 (by decide) ?_
    exact retI C hS () (by unfold r_x_cylinder; rw [if_pos c1]) (hP.pick [] rfl) (hD.sub [] rfl rfl) (Nat.le_of_ble_eq_true rfl) (Nat.le_of_ble_eq_true rfl) dX11_cylinder_31
  refine lv_iload_n hx hb dX11_cylinder_9 rfl (lv_at hl 2 rfl) ?_
  refine lv_iconst (v := 1) hx hb dX11_cylinder_10 (by decide) ?_
  refine lv_bipush (v := 100) hx hb dX11_cylinder_11 (by decide) ?_
  refine pureIS (As := [.int area, .int 1, .int 100]) (rest := []) F (c_within l area 1 100) 3 gX11_cylinder_X11_within rfl (by decide +kernel) rfl rfl ⟨(Nat.le_of_ble_eq_true rfl), (Nat.le_of_ble_eq_true rfl)⟩ (Nat.le_of_ble_eq_true rfl) (Nat.le_of_ble_eq_true rfl) rfl hl.1 rfl (Nat.le_of_ble_eq_true rfl) dX11_cylinder_13 ?_
  refine lv_if_eq (tgt := 29) hx hb dX11_cylinder_16 (by decide) (fun c2 => ?_) (fun c2 => ?_)
  · refine lv_bipush (v := -2) hx hb dX11_cylinder_29 (by decide) ?_
    exact retI C hS () (by unfold r_x_cylinder; rw [if_neg c1, if_pos c2]) (hP.pick [] rfl) (hD.sub [] rfl rfl) (Nat.le_of_ble_eq_true rfl) (Nat.le_of_ble_eq_true rfl) dX11_cylinder_31
  refine lv_iload_n hx hb dX11_cylinder_19 rfl (lv_at hl 3 rfl) ?_
  refine lv_iconst (v := 1) hx hb dX11_cylinder_20 (by decide) ?_
  refine lv_bipush (v := 100) hx hb dX11_cylinder_21 (by decide) ?_
  refine pureIS (As := [.int stroke, .int 1, .int 100]) (rest := []) F (c_within l stroke 1 100) 3 gX11_cylinder_X11_within rfl (by decide +kernel) rfl rfl ⟨(Nat.le_of_ble_eq_true rfl), (Nat.le_of_ble_eq_true rfl)⟩ (Nat.le_of_ble_eq_true rfl) (Nat.le_of_ble_eq_true rfl) rfl hl.1 rfl (Nat.le_of_ble_eq_true rfl) dX11_cylinder_23 ?_
  refine lv_if_ne (tgt := 32) hx hb dX11_cylinder_26 (by decide) (fun c3 => ?_) (fun c3 => ?_)
  · refine lv_aload_n hx hb dX11_cylinder_32 rfl (lv_at hl 0 rfl) ?_
    refine va_get (D := g.1) (ci := 11) (v := .ref a0) (C := RX11) (T := TX11) (N := 15) hx hb hts hi_X11_cylinder_X11 hown hK hP 0 rfl rfl 0 (by decide) (hts (.fieldLink RX11 12 "OilPush" "plant" "LOilPush$Plant;") (by decide +kernel)) (fun _ h => h) rfl dX11_cylinder_33 ?_
    refine lv_iload_n hx hb dX11_cylinder_36 rfl (lv_at hl 1 rfl) ?_
    refine lv_iload_n hx hb dX11_cylinder_37 rfl (lv_at hl 2 rfl) ?_
    refine lv_iload_n hx hb dX11_cylinder_38 rfl (lv_at hl 3 rfl) ?_
    refine callIV (As := [.int kind, .int area, .int stroke]) (rest := []) (wr := [(h0, .inr (11, [.ref a0, .ref a1, .ref a2, .ref a3, .ref a4, .ref a5, .ref a6, .ref a7, .ref a8, .ref a9, .ref a10, .int 0, .int 0, .int 0, .int 0]))]) (Cn := RX4) C (c_add l g a0 b2 b4 kind area stroke) 3 gX11_cylinder_X4_add rfl (by decide +kernel) ⟨(Nat.le_of_ble_eq_true rfl), (Nat.le_of_ble_eq_true rfl)⟩ [1, 2] [0] hP hD hA hS rfl rfl rfl rfl (by decide) (k := 1) (ci := 4) rfl rfl rfl rfl hl.1 rfl (Nat.le_of_ble_eq_true rfl) dX11_cylinder_39 ⟨(Nat.le_of_ble_eq_true rfl), (Nat.le_of_ble_eq_true rfl)⟩ (fun r _u H locs hw hP hD hS => ?_)
    refine W.widen (k := 2) (n := 17) (Nat.le_of_ble_eq_true rfl) (Nat.le_of_ble_eq_true rfl) ?_
    have hP : va_P g.1 vwCl [(h0, .inr (11, [.ref a0, .ref a1, .ref a2, .ref a3, .ref a4, .ref a5, .ref a6, .ref a7, .ref a8, .ref a9, .ref a10, .int 0, .int 0, .int 0, .int 0])), (a0, .inr (4, [.int 0, .int 100, .ref b2, .int 1, .ref b4]))] H := hP
    have hD : va_D A [(h0, .inr (11, [.ref a0, .ref a1, .ref a2, .ref a3, .ref a4, .ref a5, .ref a6, .ref a7, .ref a8, .ref a9, .ref a10, .int 0, .int 0, .int 0, .int 0])), (a0, .inr (4, [.int 0, .int 100, .ref b2, .int 1, .ref b4]))] := hD
    subst hw
    refine lv_if_eq (tgt := 57) hx hb dX11_cylinder_42 (by decide) (fun cc0 => absurd cc0 (by decide)) (fun _ => ?_)
    refine lv_aload_n hx hb dX11_cylinder_45 rfl (lv_at hl 0 rfl) ?_
    refine va_get (D := g.1) (ci := 11) (v := .ref a0) (C := RX11) (T := TX11) (N := 15) hx hb hts hi_X11_cylinder_X11 hown hK hP 0 rfl rfl 0 (by decide) (hts (.fieldLink RX11 12 "OilPush" "plant" "LOilPush$Plant;") (by decide +kernel)) (fun _ h => h) rfl dX11_cylinder_46 ?_
    refine va_get (D := g.1) (ci := 4) (v := .int 1) (C := RX4) (T := TX4) (N := 5) hx hb hts hi_X11_cylinder_X4 hown hK hP 1 rfl rfl 3 (by decide) (hts (.fieldLink RX11 87 "OilPush$Plant" "count" "I") (by decide +kernel)) (fun _ h => h) rfl dX11_cylinder_49 ?_
    refine lv_iconst (v := 1) hx hb dX11_cylinder_52 (by decide) ?_
    refine lv_isub hx hb dX11_cylinder_53 ?_
    refine nx_i (v := 0) (by decide) ?_
    refine lv_goto (tgt := 59) hx hb dX11_cylinder_54 (by decide) ?_
    exact retI C hS () (by unfold r_x_cylinder; rw [if_neg c1, if_neg c2, if_neg c3]) (hP.pick [] rfl) (hD.sub [] rfl rfl) (Nat.le_of_ble_eq_true rfl) (Nat.le_of_ble_eq_true rfl) dX11_cylinder_59
  refine lv_bipush (v := -2) hx hb dX11_cylinder_29 (by decide) ?_
  exact retI C hS () (by unfold r_x_cylinder; rw [if_neg c1, if_neg c2, if_pos c3]) (hP.pick [] rfl) (hD.sub [] rfl rfl) (Nat.le_of_ble_eq_true rfl) (Nat.le_of_ble_eq_true rfl) dX11_cylinder_31
