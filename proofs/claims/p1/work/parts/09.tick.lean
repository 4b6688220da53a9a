theorem hi_X3_obey_X3 : ∀ w ∈ wsX30, w ∈ wsX3_obey := fun w h => List.mem_cons_of_mem _ (List.mem_append_left _ (List.mem_append_left _ (List.mem_append_left _ (List.mem_append_left _ (List.mem_append_right _ h)))))
theorem hi_X3_obey_X7 : ∀ w ∈ wsX70, w ∈ wsX3_obey := fun w h => List.mem_cons_of_mem _ (List.mem_append_left _ (List.mem_append_left _ (List.mem_append_left _ (List.mem_append_left _ (List.mem_append_left _ (List.mem_append_right _ h))))))
set_option maxRecDepth 100000 in
set_option maxHeartbeats 4000000 in
theorem c_obey (l : Launch) (g : Gt) (a3 : Nat) (ow : Nat) (oe : Nat) (ot : Nat) (ov : Nat) (a0 : Nat) (a1 : Nat) (no : Nat) (nv : Nat) (nb : Nat) (ns : Nat)  : Ctr l g yX3_obey wsX3_obey ({ frames := 0, cells := 0, slots := 0, locals := 0 } : Room) [.ref a3, .ref a0, .ref a1] [(a3, .inr (3, [.ref ow, .ref oe, .ref ot, .ref ov, .int 0])), (a1, .inr (7, [.ref no, .ref nv, .ref nb, .ref ns, .int 0]))] (fun A => QV g A (fun _ : Unit => () = ()) (fun _u : Unit => [(a3, .inr (3, [.ref ow, .ref oe, .ref ot, .ref ov, .int 0])), (a1, .inr (7, [.ref no, .ref nv, .ref nb, .ref ns, .int 0]))])) := by
  refine Ctr.of (cc := cX3_obey) (maxL := 5) (ret := none) (by decide) rfl (Nat.le_of_ble_eq_true rfl) ?_
  intro p e s m below meth c A ls H C hP hD hA hS hl
  obtain ⟨hx, hb, hr, hts, hown, hlocks, hml, hin, hKN⟩ := id C
  have hK := hKN.1
  have hN := hKN.2
  have F : CallFix p m c cX3_obey 5 s _ wsX3_obey yX3_obey.cls := ⟨hx, hb, hml, hown, hts⟩
  have hl : lv_has ls 5 [(0, .ref a3), (1, .ref a0), (2, .ref a1)] := hl
  refine lv_aload_n hx hb dX3_obey_0 rfl (lv_at hl 2 rfl) ?_
  refine va_get (D := g.1) (ci := 7) (v := .int 0) (C := RX7) (T := TX7) (N := 5) hx hb hts hi_X3_obey_X7 hown hK hP 1 rfl rfl 4 (by decide) (hts (.fieldLink RX3 32 "OilPush$State" "waits" "I") (by decide +kernel)) (fun _ h => h) rfl dX3_obey_1 ?_
  refine lv_istore_n (lv' := [(3, .int 0), (0, .ref a3), (1, .ref a0), (2, .ref a1)]) hx hb dX3_obey_4 rfl hl (by decide) rfl (fun ls hl => ?_)
  refine lv_iload_n hx hb dX3_obey_5 rfl (lv_at hl 0 rfl) ?_
  refine lv_aload_n hx hb dX3_obey_6 rfl (lv_at hl 1 rfl) ?_
  refine va_get (D := g.1) (ci := 3) (v := .int 0) (C := RX3) (T := TX3) (N := 5) hx hb hts hi_X3_obey_X3 hown hK hP 0 rfl rfl 4 (by decide) (hts (.fieldLink RX3 24 "OilPush$Orders" "count" "I") (by decide +kernel)) (fun _ h => h) rfl dX3_obey_7 ?_
  refine lv_icmp_ge (tgt := 97) hx hb dX3_obey_10 (by decide) (fun _ => ?_) (fun cc0 => absurd cc0 (by decide))
  exact retV C hS () rfl (hP.pick [0, 1] rfl) (hD.sub [0, 1] rfl rfl) (Nat.le_of_ble_eq_true rfl) (Nat.le_of_ble_eq_true rfl) dX3_obey_97
set_option maxRecDepth 100000 in
set_option maxHeartbeats 4000000 in
theorem c_drain (l : Launch) (g : Gt) (a2 : Nat) (et : Nat) (el : Nat) (en : Nat) (em : Nat) (ek : Nat) (a1 : Nat) (b4 : Nat)  : Ctr l g yX1_drain wsX1_drain ({ frames := 0, cells := 0, slots := 0, locals := 0 } : Room) [.ref a2, .null, .ref a1, .ref b4] [(a2, .inr (1, [.ref et, .ref el, .int 0, .ref en, .ref em, .ref ek, .int 0, .int 0, .int 0, .int 0, .long 0, .long 0, .long 0]))] (fun A => QI g A (fun r (_ : Unit) => r = 0) (fun _u : Unit => [(a2, .inr (1, [.ref et, .ref el, .int 0, .ref en, .ref em, .ref ek, .int 0, .int 0, .int 0, .int 0, .long 0, .long 0, .long 0]))])) := by
  refine Ctr.of (cc := cX1_drain) (maxL := 6) (ret := (some .int)) (by decide) rfl (Nat.le_of_ble_eq_true rfl) ?_
  intro p e s m below meth c A ls H C hP hD hA hS hl
  obtain ⟨hx, hb, hr, hts, hown, hlocks, hml, hin, hKN⟩ := id C
  have hK := hKN.1
  have hN := hKN.2
  have F : CallFix p m c cX1_drain 6 s _ wsX1_drain yX1_drain.cls := ⟨hx, hb, hml, hown, hts⟩
  have hl : lv_has ls 6 [(0, .ref a2), (1, .null), (2, .ref a1), (3, .ref b4)] := hl
  refine lv_aload_nN hx hb dX1_drain_0 rfl (lv_at hl 1 rfl) ?_
  refine lv_ifnonnullN hx hb dX1_drain_1 ?_
  refine lv_iconst (v := 0) hx hb dX1_drain_4 (by decide) ?_
  exact retI C hS () rfl (hP.pick [0] rfl) (hD.sub [0] rfl rfl) (Nat.le_of_ble_eq_true rfl) (Nat.le_of_ble_eq_true rfl) dX1_drain_5
theorem hi_X1_lineUp_X1 : ∀ w ∈ wsX10, w ∈ wsX1_lineUp := fun w h => List.mem_cons_of_mem _ (List.mem_append_left _ (List.mem_append_left _ (List.mem_append_left _ (List.mem_append_left _ (List.mem_append_left _ (List.mem_append_right _ h))))))
theorem hi_X1_lineUp_X4 : ∀ w ∈ wsX40, w ∈ wsX1_lineUp := fun w h => List.mem_cons_of_mem _ (List.mem_append_left _ (List.mem_append_left _ (List.mem_append_left _ (List.mem_append_left _ (List.mem_append_right _ h)))))
set_option maxRecDepth 100000 in
set_option maxHeartbeats 4000000 in
theorem c_lineUp (l : Launch) (g : Gt) (a2 : Nat) (et : Nat) (el : Nat) (en : Nat) (em : Nat) (ek : Nat) (a0 : Nat) (b2 : Nat) (b4 : Nat) (a1 : Nat)  : Ctr l g yX1_lineUp wsX1_lineUp ({ frames := 0, cells := 0, slots := 0, locals := 0 } : Room) [.ref a2, .ref a0, .ref a1] [(a2, .inr (1, [.ref et, .ref el, .int 0, .ref en, .ref em, .ref ek, .int 0, .int 0, .int 0, .int 0, .long 0, .long 0, .long 0])), (a0, .inr (4, [.int 0, .int 100, .ref b2, .int 0, .ref b4]))] (fun A => QV g A (fun _ : Unit => () = ()) (fun _u : Unit => [(a2, .inr (1, [.ref et, .ref el, .int 0, .ref en, .ref em, .ref ek, .int 0, .int 0, .int 0, .int 0, .long 0, .long 0, .long 0])), (a0, .inr (4, [.int 0, .int 100, .ref b2, .int 0, .ref b4]))])) := by
  refine Ctr.of (cc := cX1_lineUp) (maxL := 6) (ret := none) (by decide) rfl (Nat.le_of_ble_eq_true rfl) ?_
  intro p e s m below meth c A ls H C hP hD hA hS hl
  obtain ⟨hx, hb, hr, hts, hown, hlocks, hml, hin, hKN⟩ := id C
  have hK := hKN.1
  have hN := hKN.2
  have F : CallFix p m c cX1_lineUp 6 s _ wsX1_lineUp yX1_lineUp.cls := ⟨hx, hb, hml, hown, hts⟩
  have hl : lv_has ls 6 [(0, .ref a2), (1, .ref a0), (2, .ref a1)] := hl
  refine lv_aload_n hx hb dX1_lineUp_0 rfl (lv_at hl 0 rfl) ?_
  refine lv_iconst (v := 0) hx hb dX1_lineUp_1 (by decide) ?_
  refine va_put (D := g.1) (ci := 1) (v := .int 0) (ty := .int) (C := RX1) (T := TX1) (N := 13) hx hb hts hi_X1_lineUp_X1 tyX1 tyX1_ok nmX1 hown hK hP hD hS 0 rfl rfl 2 (by decide) (hts (.fieldLink RX1 129 "OilPush$Engine" "moving" "I") (by decide +kernel)) (fun _ h => h) rfl (by decide +kernel) rfl rfl (Nat.le_of_ble_eq_true rfl) dX1_lineUp_2 (fun H locs hP hD hS => ?_)
  have hP : va_P g.1 vwCl [(a2, .inr (1, [.ref et, .ref el, .int 0, .ref en, .ref em, .ref ek, .int 0, .int 0, .int 0, .int 0, .long 0, .long 0, .long 0])), (a0, .inr (4, [.int 0, .int 100, .ref b2, .int 0, .ref b4]))] H := hP
  have hD : va_D A [(a2, .inr (1, [.ref et, .ref el, .int 0, .ref en, .ref em, .ref ek, .int 0, .int 0, .int 0, .int 0, .long 0, .long 0, .long 0])), (a0, .inr (4, [.int 0, .int 100, .ref b2, .int 0, .ref b4]))] := hD
  refine lv_iconst (v := 0) hx hb dX1_lineUp_5 (by decide) ?_
  refine lv_istore_n (lv' := [(3, .int 0), (0, .ref a2), (1, .ref a0), (2, .ref a1)]) hx hb dX1_lineUp_6 rfl hl (by decide) rfl (fun ls hl => ?_)
  refine lv_iload_n hx hb dX1_lineUp_7 rfl (lv_at hl 0 rfl) ?_
  refine lv_aload_n hx hb dX1_lineUp_8 rfl (lv_at hl 2 rfl) ?_
  refine va_get (D := g.1) (ci := 4) (v := .int 0) (C := RX4) (T := TX4) (N := 5) hx hb hts hi_X1_lineUp_X4 hown hK hP 1 rfl rfl 3 (by decide) (hts (.fieldLink RX1 132 "OilPush$Plant" "count" "I") (by decide +kernel)) (fun _ h => h) rfl dX1_lineUp_9 ?_
  refine lv_icmp_ge (tgt := 139) hx hb dX1_lineUp_12 (by decide) (fun _ => ?_) (fun cc0 => absurd cc0 (by decide))
  exact retV C hS () rfl (hP.pick [0, 1] rfl) (hD.sub [0, 1] rfl rfl) (Nat.le_of_ble_eq_true rfl) (Nat.le_of_ble_eq_true rfl) dX1_lineUp_139
theorem hi_X1_takeFromPump_X1 : ∀ w ∈ wsX10, w ∈ wsX1_takeFromPump := fun w h => List.mem_cons_of_mem _ (List.mem_append_left _ (List.mem_append_right _ h))
set_option maxRecDepth 100000 in
set_option maxHeartbeats 4000000 in
theorem c_fromPump (l : Launch) (g : Gt) (a2 : Nat) (et : Nat) (el : Nat) (en : Nat) (em : Nat) (ek : Nat) (a1 : Nat)  : Ctr l g yX1_takeFromPump wsX1_takeFromPump ({ frames := 0, cells := 0, slots := 0, locals := 0 } : Room) [.ref a2, .int 0, .ref a1] [(a2, .inr (1, [.ref et, .ref el, .int 0, .ref en, .ref em, .ref ek, .int 0, .int 0, .int 0, .int 0, .long 0, .long 0, .long 0]))] (fun A => QI g A (fun r (_ : Unit) => r = 0) (fun _u : Unit => [(a2, .inr (1, [.ref et, .ref el, .int 0, .ref en, .ref em, .ref ek, .int 0, .int 0, .int 0, .int 0, .long 0, .long 0, .long 0]))])) := by
  refine Ctr.of (cc := cX1_takeFromPump) (maxL := 7) (ret := (some .int)) (by decide) rfl (Nat.le_of_ble_eq_true rfl) ?_
  intro p e s m below meth c A ls H C hP hD hA hS hl
  obtain ⟨hx, hb, hr, hts, hown, hlocks, hml, hin, hKN⟩ := id C
  have hK := hKN.1
  have hN := hKN.2
  have F : CallFix p m c cX1_takeFromPump 7 s _ wsX1_takeFromPump yX1_takeFromPump.cls := ⟨hx, hb, hml, hown, hts⟩
  have hl : lv_has ls 7 [(0, .ref a2), (1, .int 0), (2, .ref a1)] := hl
  refine lv_iload_n hx hb dX1_takeFromPump_0 rfl (lv_at hl 1 rfl) ?_
  refine lv_istore_n (lv' := [(3, .int 0), (0, .ref a2), (1, .int 0), (2, .ref a1)]) hx hb dX1_takeFromPump_1 rfl hl (by decide) rfl (fun ls hl => ?_)
  refine lv_aload_n hx hb dX1_takeFromPump_2 rfl (lv_at hl 1 rfl) ?_
  refine lv_iconst (v := 0) hx hb dX1_takeFromPump_3 (by decide) ?_
  refine va_put (D := g.1) (ci := 1) (v := .int 0) (ty := .int) (C := RX1) (T := TX1) (N := 13) hx hb hts hi_X1_takeFromPump_X1 tyX1 tyX1_ok nmX1 hown hK hP hD hS 0 rfl rfl 6 (by decide) (hts (.fieldLink RX1 145 "OilPush$Engine" "takers" "I") (by decide +kernel)) (fun _ h => h) rfl (by decide +kernel) rfl rfl (Nat.le_of_ble_eq_true rfl) dX1_takeFromPump_4 (fun H locs hP hD hS => ?_)
  have hP : va_P g.1 vwCl [(a2, .inr (1, [.ref et, .ref el, .int 0, .ref en, .ref em, .ref ek, .int 0, .int 0, .int 0, .int 0, .long 0, .long 0, .long 0]))] H := hP
  have hD : va_D A [(a2, .inr (1, [.ref et, .ref el, .int 0, .ref en, .ref em, .ref ek, .int 0, .int 0, .int 0, .int 0, .long 0, .long 0, .long 0]))] := hD
  refine lv_aload_n hx hb dX1_takeFromPump_7 rfl (lv_at hl 1 rfl) ?_
  refine lv_iconst (v := 0) hx hb dX1_takeFromPump_8 (by decide) ?_
  refine va_put (D := g.1) (ci := 1) (v := .int 0) (ty := .int) (C := RX1) (T := TX1) (N := 13) hx hb hts hi_X1_takeFromPump_X1 tyX1 tyX1_ok nmX1 hown hK hP hD hS 0 rfl rfl 7 (by decide) (hts (.fieldLink RX1 86 "OilPush$Engine" "pressure" "I") (by decide +kernel)) (fun _ h => h) rfl (by decide +kernel) rfl rfl (Nat.le_of_ble_eq_true rfl) dX1_takeFromPump_9 (fun H locs hP hD hS => ?_)
  have hP : va_P g.1 vwCl [(a2, .inr (1, [.ref et, .ref el, .int 0, .ref en, .ref em, .ref ek, .int 0, .int 0, .int 0, .int 0, .long 0, .long 0, .long 0]))] H := hP
  have hD : va_D A [(a2, .inr (1, [.ref et, .ref el, .int 0, .ref en, .ref em, .ref ek, .int 0, .int 0, .int 0, .int 0, .long 0, .long 0, .long 0]))] := hD
  refine lv_iconst (v := 0) hx hb dX1_takeFromPump_12 (by decide) ?_
  refine lv_istore (lv' := [(4, .int 0), (3, .int 0), (0, .ref a2), (1, .int 0), (2, .ref a1)]) hx hb dX1_takeFromPump_13 hl (by decide) rfl (fun ls hl => ?_)
  refine lv_iload hx hb dX1_takeFromPump_15 (lv_at hl 0 rfl) ?_
  refine lv_aload_n hx hb dX1_takeFromPump_17 rfl (lv_at hl 2 rfl) ?_
  refine va_get (D := g.1) (ci := 1) (v := .int 0) (C := RX1) (T := TX1) (N := 13) hx hb hts hi_X1_takeFromPump_X1 hown hK hP 0 rfl rfl 2 (by decide) (hts (.fieldLink RX1 129 "OilPush$Engine" "moving" "I") (by decide +kernel)) (fun _ h => h) rfl dX1_takeFromPump_18 ?_
  refine lv_icmp_ge (tgt := 118) hx hb dX1_takeFromPump_21 (by decide) (fun _ => ?_) (fun cc0 => absurd cc0 (by decide))
  refine lv_iload_n hx hb dX1_takeFromPump_118 rfl (lv_at hl 1 rfl) ?_
  exact retI C hS () rfl (hP.pick [0] rfl) (hD.sub [0] rfl rfl) (Nat.le_of_ble_eq_true rfl) (Nat.le_of_ble_eq_true rfl) dX1_takeFromPump_119
theorem hi_X1_addUp_X1 : ∀ w ∈ wsX10, w ∈ wsX1_addUp := fun w h => List.mem_cons_of_mem _ (List.mem_append_left _ (List.mem_append_right _ h))
theorem hi_X1_addUp_X4 : ∀ w ∈ wsX40, w ∈ wsX1_addUp := fun w h => List.mem_cons_of_mem _ (List.mem_append_right _ h)
set_option maxRecDepth 100000 in
set_option maxHeartbeats 4000000 in
theorem c_addUp (l : Launch) (g : Gt) (a2 : Nat) (et : Nat) (el : Nat) (en : Nat) (em : Nat) (ek : Nat) (a0 : Nat) (b2 : Nat) (b4 : Nat)  : Ctr l g yX1_addUp wsX1_addUp ({ frames := 0, cells := 0, slots := 0, locals := 0 } : Room) [.ref a2, .ref a0, .int 0] [(a2, .inr (1, [.ref et, .ref el, .int 0, .ref en, .ref em, .ref ek, .int 0, .int 0, .int 0, .int 0, .long 0, .long 0, .long 0])), (a0, .inr (4, [.int 0, .int 100, .ref b2, .int 0, .ref b4]))] (fun A => QV g A (fun _ : Unit => () = ()) (fun _u : Unit => [(a2, .inr (1, [.ref et, .ref el, .int 0, .ref en, .ref em, .ref ek, .int 0, .int 0, .int 0, .int 0, .long 0, .long 0, .long 0])), (a0, .inr (4, [.int 0, .int 100, .ref b2, .int 0, .ref b4]))])) := by
  refine Ctr.of (cc := cX1_addUp) (maxL := 7) (ret := none) (by decide) rfl (Nat.le_of_ble_eq_true rfl) ?_
  intro p e s m below meth c A ls H C hP hD hA hS hl
  obtain ⟨hx, hb, hr, hts, hown, hlocks, hml, hin, hKN⟩ := id C
  have hK := hKN.1
  have hN := hKN.2
  have F : CallFix p m c cX1_addUp 7 s _ wsX1_addUp yX1_addUp.cls := ⟨hx, hb, hml, hown, hts⟩
  have hl : lv_has ls 7 [(0, .ref a2), (1, .ref a0), (2, .int 0)] := hl
  refine lv_iconst (v := 0) hx hb dX1_addUp_0 (by decide) ?_
  refine lv_istore_n (lv' := [(3, .int 0), (0, .ref a2), (1, .ref a0), (2, .int 0)]) hx hb dX1_addUp_1 rfl hl (by decide) rfl (fun ls hl => ?_)
  refine lv_iload_n hx hb dX1_addUp_2 rfl (lv_at hl 0 rfl) ?_
  refine lv_aload_n hx hb dX1_addUp_3 rfl (lv_at hl 1 rfl) ?_
  refine va_get (D := g.1) (ci := 1) (v := .int 0) (C := RX1) (T := TX1) (N := 13) hx hb hts hi_X1_addUp_X1 hown hK hP 0 rfl rfl 6 (by decide) (hts (.fieldLink RX1 145 "OilPush$Engine" "takers" "I") (by decide +kernel)) (fun _ h => h) rfl dX1_addUp_4 ?_
  refine lv_icmp_ge (tgt := 87) hx hb dX1_addUp_7 (by decide) (fun _ => ?_) (fun cc0 => absurd cc0 (by decide))
  refine lv_aload_n hx hb dX1_addUp_87 rfl (lv_at hl 1 rfl) ?_
  refine lv_dup hx hb dX1_addUp_88 rfl ?_
  refine va_get (D := g.1) (ci := 1) (v := .long 0) (C := RX1) (T := TX1) (N := 13) hx hb hts hi_X1_addUp_X1 hown hK hP 0 rfl rfl 10 (by decide) (hts (.fieldLink RX1 152 "OilPush$Engine" "heat" "J") (by decide +kernel)) (fun _ h => h) rfl dX1_addUp_89 ?_
  refine lv_aload_n hx hb dX1_addUp_92 rfl (lv_at hl 1 rfl) ?_
  refine va_get (D := g.1) (ci := 1) (v := .int 0) (C := RX1) (T := TX1) (N := 13) hx hb hts hi_X1_addUp_X1 hown hK hP 0 rfl rfl 9 (by decide) (hts (.fieldLink RX1 80 "OilPush$Engine" "storeTook" "I") (by decide +kernel)) (fun _ h => h) rfl dX1_addUp_93 ?_
  refine lv_i2l (v := 0) hx hb dX1_addUp_96 (by decide) ?_
  refine lv_aload_n hx hb dX1_addUp_97 rfl (lv_at hl 1 rfl) ?_
  refine va_get (D := g.1) (ci := 1) (v := .int 0) (C := RX1) (T := TX1) (N := 13) hx hb hts hi_X1_addUp_X1 hown hK hP 0 rfl rfl 7 (by decide) (hts (.fieldLink RX1 86 "OilPush$Engine" "pressure" "I") (by decide +kernel)) (fun _ h => h) rfl dX1_addUp_98 ?_
  refine lv_iload_n hx hb dX1_addUp_101 rfl (lv_at hl 3 rfl) ?_
  refine lv_isub hx hb dX1_addUp_102 ?_
  refine nx_i (v := 0) (by decide) ?_
  refine lv_i2l (v := 0) hx hb dX1_addUp_103 (by decide) ?_
  refine lv_lmul hx hb dX1_addUp_104 ?_
  refine nx_l (v := 0) (by decide) ?_
  refine lv_ladd hx hb dX1_addUp_105 ?_
  refine nx_l (v := 0) (by decide) ?_
  refine va_put (D := g.1) (ci := 1) (v := .long 0) (ty := .long) (C := RX1) (T := TX1) (N := 13) hx hb hts hi_X1_addUp_X1 tyX1 tyX1_ok nmX1 hown hK hP hD hS 0 rfl rfl 10 (by decide) (hts (.fieldLink RX1 152 "OilPush$Engine" "heat" "J") (by decide +kernel)) (fun _ h => h) rfl (by decide +kernel) rfl rfl (Nat.le_of_ble_eq_true rfl) dX1_addUp_106 (fun H locs hP hD hS => ?_)
  have hP : va_P g.1 vwCl [(a2, .inr (1, [.ref et, .ref el, .int 0, .ref en, .ref em, .ref ek, .int 0, .int 0, .int 0, .int 0, .long 0, .long 0, .long 0])), (a0, .inr (4, [.int 0, .int 100, .ref b2, .int 0, .ref b4]))] H := hP
  have hD : va_D A [(a2, .inr (1, [.ref et, .ref el, .int 0, .ref en, .ref em, .ref ek, .int 0, .int 0, .int 0, .int 0, .long 0, .long 0, .long 0])), (a0, .inr (4, [.int 0, .int 100, .ref b2, .int 0, .ref b4]))] := hD
  refine lv_aload_n hx hb dX1_addUp_109 rfl (lv_at hl 1 rfl) ?_
  refine lv_dup hx hb dX1_addUp_110 rfl ?_
  refine va_get (D := g.1) (ci := 1) (v := .long 0) (C := RX1) (T := TX1) (N := 13) hx hb hts hi_X1_addUp_X1 hown hK hP 0 rfl rfl 10 (by decide) (hts (.fieldLink RX1 152 "OilPush$Engine" "heat" "J") (by decide +kernel)) (fun _ h => h) rfl dX1_addUp_111 ?_
  refine lv_aload_n hx hb dX1_addUp_114 rfl (lv_at hl 1 rfl) ?_
  refine va_get (D := g.1) (ci := 1) (v := .int 0) (C := RX1) (T := TX1) (N := 13) hx hb hts hi_X1_addUp_X1 hown hK hP 0 rfl rfl 8 (by decide) (hts (.fieldLink RX1 83 "OilPush$Engine" "over" "I") (by decide +kernel)) (fun _ h => h) rfl dX1_addUp_115 ?_
  refine lv_i2l (v := 0) hx hb dX1_addUp_118 (by decide) ?_
  refine lv_aload_n hx hb dX1_addUp_119 rfl (lv_at hl 2 rfl) ?_
  refine va_get (D := g.1) (ci := 4) (v := .int 100) (C := RX4) (T := TX4) (N := 5) hx hb hts hi_X1_addUp_X4 hown hK hP 1 rfl rfl 1 (by decide) (hts (.fieldLink RX1 65 "OilPush$Plant" "limit" "I") (by decide +kernel)) (fun _ h => h) rfl dX1_addUp_120 ?_
  refine lv_i2l (v := 100) hx hb dX1_addUp_123 (by decide) ?_
  refine lv_lmul hx hb dX1_addUp_124 ?_
  refine nx_l (v := 0) (by decide) ?_
  refine lv_ladd hx hb dX1_addUp_125 ?_
  refine nx_l (v := 0) (by decide) ?_
  refine va_put (D := g.1) (ci := 1) (v := .long 0) (ty := .long) (C := RX1) (T := TX1) (N := 13) hx hb hts hi_X1_addUp_X1 tyX1 tyX1_ok nmX1 hown hK hP hD hS 0 rfl rfl 10 (by decide) (hts (.fieldLink RX1 152 "OilPush$Engine" "heat" "J") (by decide +kernel)) (fun _ h => h) rfl (by decide +kernel) rfl rfl (Nat.le_of_ble_eq_true rfl) dX1_addUp_126 (fun H locs hP hD hS => ?_)
  have hP : va_P g.1 vwCl [(a2, .inr (1, [.ref et, .ref el, .int 0, .ref en, .ref em, .ref ek, .int 0, .int 0, .int 0, .int 0, .long 0, .long 0, .long 0])), (a0, .inr (4, [.int 0, .int 100, .ref b2, .int 0, .ref b4]))] H := hP
  have hD : va_D A [(a2, .inr (1, [.ref et, .ref el, .int 0, .ref en, .ref em, .ref ek, .int 0, .int 0, .int 0, .int 0, .long 0, .long 0, .long 0])), (a0, .inr (4, [.int 0, .int 100, .ref b2, .int 0, .ref b4]))] := hD
  refine lv_aload_n hx hb dX1_addUp_129 rfl (lv_at hl 1 rfl) ?_
  refine lv_dup hx hb dX1_addUp_130 rfl ?_
  refine va_get (D := g.1) (ci := 1) (v := .long 0) (C := RX1) (T := TX1) (N := 13) hx hb hts hi_X1_addUp_X1 hown hK hP 0 rfl rfl 12 (by decide) (hts (.fieldLink RX1 159 "OilPush$Engine" "given" "J") (by decide +kernel)) (fun _ h => h) rfl dX1_addUp_131 ?_
  refine lv_aload_n hx hb dX1_addUp_134 rfl (lv_at hl 2 rfl) ?_
  refine va_get (D := g.1) (ci := 4) (v := .int 0) (C := RX4) (T := TX4) (N := 5) hx hb hts hi_X1_addUp_X4 hown hK hP 1 rfl rfl 0 (by decide) (hts (.fieldLink RX1 45 "OilPush$Plant" "gives" "I") (by decide +kernel)) (fun _ h => h) rfl dX1_addUp_135 ?_
  refine lv_i2l (v := 0) hx hb dX1_addUp_138 (by decide) ?_
  refine lv_aload_n hx hb dX1_addUp_139 rfl (lv_at hl 1 rfl) ?_
  refine va_get (D := g.1) (ci := 1) (v := .int 0) (C := RX1) (T := TX1) (N := 13) hx hb hts hi_X1_addUp_X1 hown hK hP 0 rfl rfl 7 (by decide) (hts (.fieldLink RX1 86 "OilPush$Engine" "pressure" "I") (by decide +kernel)) (fun _ h => h) rfl dX1_addUp_140 ?_
  refine lv_i2l (v := 0) hx hb dX1_addUp_143 (by decide) ?_
  refine lv_lmul hx hb dX1_addUp_144 ?_
  refine nx_l (v := 0) (by decide) ?_
  refine lv_ladd hx hb dX1_addUp_145 ?_
  refine nx_l (v := 0) (by decide) ?_
  refine va_put (D := g.1) (ci := 1) (v := .long 0) (ty := .long) (C := RX1) (T := TX1) (N := 13) hx hb hts hi_X1_addUp_X1 tyX1 tyX1_ok nmX1 hown hK hP hD hS 0 rfl rfl 12 (by decide) (hts (.fieldLink RX1 159 "OilPush$Engine" "given" "J") (by decide +kernel)) (fun _ h => h) rfl (by decide +kernel) rfl rfl (Nat.le_of_ble_eq_true rfl) dX1_addUp_146 (fun H locs hP hD hS => ?_)
  have hP : va_P g.1 vwCl [(a2, .inr (1, [.ref et, .ref el, .int 0, .ref en, .ref em, .ref ek, .int 0, .int 0, .int 0, .int 0, .long 0, .long 0, .long 0])), (a0, .inr (4, [.int 0, .int 100, .ref b2, .int 0, .ref b4]))] H := hP
  have hD : va_D A [(a2, .inr (1, [.ref et, .ref el, .int 0, .ref en, .ref em, .ref ek, .int 0, .int 0, .int 0, .int 0, .long 0, .long 0, .long 0])), (a0, .inr (4, [.int 0, .int 100, .ref b2, .int 0, .ref b4]))] := hD
  exact retV C hS () rfl (hP.pick [0, 1] rfl) (hD.sub [0, 1] rfl rfl) (Nat.le_of_ble_eq_true rfl) (Nat.le_of_ble_eq_true rfl) dX1_addUp_149
theorem hi_X1_takeFromStore_X1 : ∀ w ∈ wsX10, w ∈ wsX1_takeFromStore := fun w h => List.mem_cons_of_mem _ (List.mem_append_left _ (List.mem_append_left _ (List.mem_append_right _ h)))
set_option maxRecDepth 100000 in
set_option maxHeartbeats 4000000 in
theorem c_fromStore (l : Launch) (g : Gt) (a2 : Nat) (et : Nat) (el : Nat) (en : Nat) (em : Nat) (ek : Nat) (a1 : Nat)  : Ctr l g yX1_takeFromStore wsX1_takeFromStore ({ frames := 0, cells := 0, slots := 0, locals := 0 } : Room) [.ref a2, .ref a1] [(a2, .inr (1, [.ref et, .ref el, .int 0, .ref en, .ref em, .ref ek, .int 0, .int 0, .int 0, .int 0, .long 0, .long 0, .long 0]))] (fun A => QV g A (fun _ : Unit => () = ()) (fun _u : Unit => [(a2, .inr (1, [.ref et, .ref el, .int 0, .ref en, .ref em, .ref ek, .int 0, .int 0, .int 0, .int 0, .long 0, .long 0, .long 0]))])) := by
  refine Ctr.of (cc := cX1_takeFromStore) (maxL := 5) (ret := none) (by decide) rfl (Nat.le_of_ble_eq_true rfl) ?_
  intro p e s m below meth c A ls H C hP hD hA hS hl
  obtain ⟨hx, hb, hr, hts, hown, hlocks, hml, hin, hKN⟩ := id C
  have hK := hKN.1
  have hN := hKN.2
  have F : CallFix p m c cX1_takeFromStore 5 s _ wsX1_takeFromStore yX1_takeFromStore.cls := ⟨hx, hb, hml, hown, hts⟩
  have hl : lv_has ls 5 [(0, .ref a2), (1, .ref a1)] := hl
  refine lv_iconst (v := 0) hx hb dX1_takeFromStore_0 (by decide) ?_
  refine lv_istore_n (lv' := [(2, .int 0), (0, .ref a2), (1, .ref a1)]) hx hb dX1_takeFromStore_1 rfl hl (by decide) rfl (fun ls hl => ?_)
  refine lv_iload_n hx hb dX1_takeFromStore_2 rfl (lv_at hl 0 rfl) ?_
  refine lv_aload_n hx hb dX1_takeFromStore_3 rfl (lv_at hl 1 rfl) ?_
  refine va_get (D := g.1) (ci := 1) (v := .int 0) (C := RX1) (T := TX1) (N := 13) hx hb hts hi_X1_takeFromStore_X1 hown hK hP 0 rfl rfl 2 (by decide) (hts (.fieldLink RX1 129 "OilPush$Engine" "moving" "I") (by decide +kernel)) (fun _ h => h) rfl dX1_takeFromStore_4 ?_
  refine lv_icmp_ge (tgt := 105) hx hb dX1_takeFromStore_7 (by decide) (fun _ => ?_) (fun cc0 => absurd cc0 (by decide))
  exact retV C hS () rfl (hP.pick [0] rfl) (hD.sub [0] rfl rfl) (Nat.le_of_ble_eq_true rfl) (Nat.le_of_ble_eq_true rfl) dX1_takeFromStore_105
theorem hi_X1_run_X1 : ∀ w ∈ wsX10, w ∈ wsX1_run := fun w h => List.mem_cons_of_mem _ (List.mem_append_left _ (List.mem_append_left _ (List.mem_append_left _ (List.mem_append_left _ (List.mem_append_left _ (List.mem_append_left _ (List.mem_append_right _ h)))))))
theorem hi_X1_run_X4 : ∀ w ∈ wsX40, w ∈ wsX1_run := fun w h => List.mem_cons_of_mem _ (List.mem_append_left _ (List.mem_append_left _ (List.mem_append_left _ (List.mem_append_left _ (List.mem_append_left _ (List.mem_append_right _ h))))))
theorem hi_X1_run_X7 : ∀ w ∈ wsX70, w ∈ wsX1_run := fun w h => List.mem_cons_of_mem _ (List.mem_append_left _ (List.mem_append_left _ (List.mem_append_left _ (List.mem_append_left _ (List.mem_append_right _ h)))))
theorem hi_X1_run_X8 : ∀ w ∈ wsX80, w ∈ wsX1_run := fun w h => List.mem_cons_of_mem _ (List.mem_append_left _ (List.mem_append_left _ (List.mem_append_left _ (List.mem_append_right _ h))))
set_option maxRecDepth 100000 in
set_option maxHeartbeats 4000000 in
theorem c_run (l : Launch) (g : Gt) (a2 : Nat) (et : Nat) (el : Nat) (en : Nat) (em : Nat) (ek : Nat) (a0 : Nat) (b2 : Nat) (b4 : Nat) (a1 : Nat) (no : Nat) (nv : Nat) (nb : Nat) (ns : Nat)  : Ctr l g yX1_run wsX1_run ({ frames := 1, cells := 0, slots := 0, locals := 26 } : Room) [.ref a2, .ref a0, .ref a1, .ref b4] [(a2, .inr (1, [.ref et, .ref el, .int 0, .ref en, .ref em, .ref ek, .int 0, .int 0, .int 0, .int 0, .long 0, .long 0, .long 0])), (et, .inl (g.2 0, 6, .inl z0)), (a0, .inr (4, [.int 0, .int 100, .ref b2, .int 0, .ref b4])), (a1, .inr (7, [.ref no, .ref nv, .ref nb, .ref ns, .int 0])), (ns, .inr (8, [.int 0, .int 0, .int 1, .int 0]))] (fun A => QV g A (fun _ : Unit => () = ()) (fun _u : Unit => [(a2, .inr (1, [.ref et, .ref el, .int 0, .ref en, .ref em, .ref ek, .int 0, .int 0, .int 0, .int 0, .long 0, .long 0, .long 0])), (et, .inl (g.2 0, 6, .inl z0)), (a0, .inr (4, [.int 0, .int 100, .ref b2, .int 0, .ref b4])), (a1, .inr (7, [.ref no, .ref nv, .ref nb, .ref ns, .int 0])), (ns, .inr (8, [.int 0, .int 0, .int 1, .int 0]))])) := by
  refine Ctr.of (cc := cX1_run) (maxL := 6) (ret := none) (by decide) rfl (Nat.le_of_ble_eq_true rfl) ?_
  intro p e s m below meth c A ls H C hP hD hA hS hl
  obtain ⟨hx, hb, hr, hts, hown, hlocks, hml, hin, hKN⟩ := id C
  have hK := hKN.1
  have hN := hKN.2
  have F : CallFix p m c cX1_run 6 s _ wsX1_run yX1_run.cls := ⟨hx, hb, hml, hown, hts⟩
  have hl : lv_has ls 6 [(0, .ref a2), (1, .ref a0), (2, .ref a1), (3, .ref b4)] := hl
  refine lv_iconst (v := 0) hx hb dX1_run_0 (by decide) ?_
  refine lv_istore (lv' := [(4, .int 0), (0, .ref a2), (1, .ref a0), (2, .ref a1), (3, .ref b4)]) hx hb dX1_run_1 hl (by decide) rfl (fun ls hl => ?_)
  refine W.loop (α := Int32) (P := fun (ix : Int32) ls H locs => 0 ≤ ix.toInt ∧ ix.toInt ≤ (6 : Int32).toInt ∧ lv_has ls 6 [(4, .int ix), (0, .ref a2), (1, .ref a0), (2, .ref a1), (3, .ref b4)] ∧ va_P g.1 vwCl [(a2, .inr (1, [.ref et, .ref el, .int 0, .ref en, .ref em, .ref ek, .int 0, .int 0, .int 0, .int 0, .long 0, .long 0, .long 0])), (et, .inl (g.2 0, 6, .inl z0)), (a0, .inr (4, [.int 0, .int 100, .ref b2, .int 0, .ref b4])), (a1, .inr (7, [.ref no, .ref nv, .ref nb, .ref ns, .int 0])), (ns, .inr (8, [.int 0, .int 0, .int 1, .int 0]))] H ∧ va_S A s.heap H locs) (μ := fun (ix : Int32) => ((6 : Int32).toInt - ix.toInt).toNat) 0 ⟨(by decide), (by decide), hl, hP, hS⟩ (fun ix ls H locs hh ih => ?_)
  obtain ⟨hi0, hib, hl, hP, hS⟩ := hh
  refine lv_iload hx hb dX1_run_3 (lv_at hl 0 rfl) ?_
  refine lv_bipush (v := 6) hx hb dX1_run_5 (by decide) ?_
  refine lv_icmp_ge (tgt := 38) hx hb dX1_run_7 (by decide) (fun c1 => ?_) (fun c1 => ?_)
  · refine lv_aload_n hx hb dX1_run_38 rfl (lv_at hl 1 rfl) ?_
    refine lv_aload_n hx hb dX1_run_39 rfl (lv_at hl 2 rfl) ?_
    refine lv_aload_n hx hb dX1_run_40 rfl (lv_at hl 3 rfl) ?_
    refine callVV (As := [.ref a0, .ref a1]) (rest := []) (wr := [(et, .inl (g.2 0, 6, .inl z0)), (a1, .inr (7, [.ref no, .ref nv, .ref nb, .ref ns, .int 0])), (ns, .inr (8, [.int 0, .int 0, .int 1, .int 0]))]) (Cn := RX1) C (c_lineUp l g a2 et el en em ek a0 b2 b4 a1) 2 gX1_run_X1_lineUp rfl (by decide +kernel) ⟨(Nat.le_of_ble_eq_true rfl), (Nat.le_of_ble_eq_true rfl)⟩ [0, 2] [1, 3, 4] hP hD hA hS rfl rfl rfl rfl (by decide) (k := 0) (ci := 1) rfl rfl rfl rfl hl.1 rfl (Nat.le_of_ble_eq_true rfl) dX1_run_41 ⟨(Nat.le_of_ble_eq_true rfl), (Nat.le_of_ble_eq_true rfl)⟩ (fun _u H locs hw hP hD hS => ?_)
    have hP : va_P g.1 vwCl [(et, .inl (g.2 0, 6, .inl z0)), (a1, .inr (7, [.ref no, .ref nv, .ref nb, .ref ns, .int 0])), (ns, .inr (8, [.int 0, .int 0, .int 1, .int 0])), (a2, .inr (1, [.ref et, .ref el, .int 0, .ref en, .ref em, .ref ek, .int 0, .int 0, .int 0, .int 0, .long 0, .long 0, .long 0])), (a0, .inr (4, [.int 0, .int 100, .ref b2, .int 0, .ref b4]))] H := hP
    have hD : va_D A [(et, .inl (g.2 0, 6, .inl z0)), (a1, .inr (7, [.ref no, .ref nv, .ref nb, .ref ns, .int 0])), (ns, .inr (8, [.int 0, .int 0, .int 1, .int 0])), (a2, .inr (1, [.ref et, .ref el, .int 0, .ref en, .ref em, .ref ek, .int 0, .int 0, .int 0, .int 0, .long 0, .long 0, .long 0])), (a0, .inr (4, [.int 0, .int 100, .ref b2, .int 0, .ref b4]))] := hD
    refine lv_aload_n hx hb dX1_run_44 rfl (lv_at hl 1 rfl) ?_
    refine lv_aload_n hx hb dX1_run_45 rfl (lv_at hl 2 rfl) ?_
    refine va_get (D := g.1) (ci := 4) (v := .int 0) (C := RX4) (T := TX4) (N := 5) hx hb hts hi_X1_run_X4 hown hK hP 4 rfl rfl 0 (by decide) (hts (.fieldLink RX1 45 "OilPush$Plant" "gives" "I") (by decide +kernel)) (fun _ h => h) rfl dX1_run_46 ?_
    refine lv_aload_n hx hb dX1_run_49 rfl (lv_at hl 3 rfl) ?_
    refine callIV (As := [.int 0, .ref a1]) (rest := []) (wr := [(et, .inl (g.2 0, 6, .inl z0)), (a1, .inr (7, [.ref no, .ref nv, .ref nb, .ref ns, .int 0])), (ns, .inr (8, [.int 0, .int 0, .int 1, .int 0])), (a0, .inr (4, [.int 0, .int 100, .ref b2, .int 0, .ref b4]))]) (Cn := RX1) C (c_fromPump l g a2 et el en em ek a1) 2 gX1_run_X1_takeFromPump rfl (by decide +kernel) ⟨(Nat.le_of_ble_eq_true rfl), (Nat.le_of_ble_eq_true rfl)⟩ [3] [0, 1, 2, 4] hP hD hA hS rfl rfl rfl rfl (by decide) (k := 3) (ci := 1) rfl rfl rfl rfl hl.1 rfl (Nat.le_of_ble_eq_true rfl) dX1_run_50 ⟨(Nat.le_of_ble_eq_true rfl), (Nat.le_of_ble_eq_true rfl)⟩ (fun r _u H locs hw hP hD hS => ?_)
    have hP : va_P g.1 vwCl [(et, .inl (g.2 0, 6, .inl z0)), (a1, .inr (7, [.ref no, .ref nv, .ref nb, .ref ns, .int 0])), (ns, .inr (8, [.int 0, .int 0, .int 1, .int 0])), (a0, .inr (4, [.int 0, .int 100, .ref b2, .int 0, .ref b4])), (a2, .inr (1, [.ref et, .ref el, .int 0, .ref en, .ref em, .ref ek, .int 0, .int 0, .int 0, .int 0, .long 0, .long 0, .long 0]))] H := hP
    have hD : va_D A [(et, .inl (g.2 0, 6, .inl z0)), (a1, .inr (7, [.ref no, .ref nv, .ref nb, .ref ns, .int 0])), (ns, .inr (8, [.int 0, .int 0, .int 1, .int 0])), (a0, .inr (4, [.int 0, .int 100, .ref b2, .int 0, .ref b4])), (a2, .inr (1, [.ref et, .ref el, .int 0, .ref en, .ref em, .ref ek, .int 0, .int 0, .int 0, .int 0, .long 0, .long 0, .long 0]))] := hD
    subst hw
    refine lv_istore (lv' := [(4, .int 0), (0, .ref a2), (1, .ref a0), (2, .ref a1), (3, .ref b4)]) hx hb dX1_run_53 hl (by decide) rfl (fun ls hl => ?_)
    refine lv_aload_n hx hb dX1_run_55 rfl (lv_at hl 3 rfl) ?_
    refine va_get (D := g.1) (ci := 7) (v := .ref ns) (C := RX7) (T := TX7) (N := 5) hx hb hts hi_X1_run_X7 hown hK hP 1 rfl rfl 3 (by decide) (hts (.fieldLink RX1 53 "OilPush$State" "store" "LOilPush$Store;") (by decide +kernel)) (fun _ h => h) rfl dX1_run_56 ?_
    refine callIV (As := []) (rest := []) (wr := [(et, .inl (g.2 0, 6, .inl z0)), (a1, .inr (7, [.ref no, .ref nv, .ref nb, .ref ns, .int 0])), (a0, .inr (4, [.int 0, .int 100, .ref b2, .int 0, .ref b4])), (a2, .inr (1, [.ref et, .ref el, .int 0, .ref en, .ref em, .ref ek, .int 0, .int 0, .int 0, .int 0, .long 0, .long 0, .long 0]))]) (Cn := RX8) C (c_pressure l g ns) 0 gX1_run_X8_pressure rfl (by decide +kernel) ⟨(Nat.le_of_ble_eq_true rfl), (Nat.le_of_ble_eq_true rfl)⟩ [2] [0, 1, 3, 4] hP hD hA hS rfl rfl rfl rfl (by decide) (k := 2) (ci := 8) rfl rfl rfl rfl hl.1 rfl (Nat.le_of_ble_eq_true rfl) dX1_run_59 ⟨(Nat.le_of_ble_eq_true rfl), (Nat.le_of_ble_eq_true rfl)⟩ (fun r _u H locs hw hP hD hS => ?_)
    have hP : va_P g.1 vwCl [(et, .inl (g.2 0, 6, .inl z0)), (a1, .inr (7, [.ref no, .ref nv, .ref nb, .ref ns, .int 0])), (a0, .inr (4, [.int 0, .int 100, .ref b2, .int 0, .ref b4])), (a2, .inr (1, [.ref et, .ref el, .int 0, .ref en, .ref em, .ref ek, .int 0, .int 0, .int 0, .int 0, .long 0, .long 0, .long 0])), (ns, .inr (8, [.int 0, .int 0, .int 1, .int 0]))] H := hP
    have hD : va_D A [(et, .inl (g.2 0, 6, .inl z0)), (a1, .inr (7, [.ref no, .ref nv, .ref nb, .ref ns, .int 0])), (a0, .inr (4, [.int 0, .int 100, .ref b2, .int 0, .ref b4])), (a2, .inr (1, [.ref et, .ref el, .int 0, .ref en, .ref em, .ref ek, .int 0, .int 0, .int 0, .int 0, .long 0, .long 0, .long 0])), (ns, .inr (8, [.int 0, .int 0, .int 1, .int 0]))] := hD
    subst hw
    refine lv_istore (lv' := [(5, .int 0), (4, .int 0), (0, .ref a2), (1, .ref a0), (2, .ref a1), (3, .ref b4)]) hx hb dX1_run_62 hl (by decide) rfl (fun ls hl => ?_)
    refine lv_aload_n hx hb dX1_run_64 rfl (lv_at hl 2 rfl) ?_
    refine lv_iload hx hb dX1_run_65 (lv_at hl 0 rfl) ?_
    refine lv_aload_n hx hb dX1_run_67 rfl (lv_at hl 3 rfl) ?_
    refine va_get (D := g.1) (ci := 4) (v := .int 100) (C := RX4) (T := TX4) (N := 5) hx hb hts hi_X1_run_X4 hown hK hP 2 rfl rfl 1 (by decide) (hts (.fieldLink RX1 65 "OilPush$Plant" "limit" "I") (by decide +kernel)) (fun _ h => h) rfl dX1_run_68 ?_
    refine lv_icmp_gt (tgt := 97) hx hb dX1_run_71 (by decide) (fun cc0 => absurd cc0 (by decide)) (fun _ => ?_)
    refine lv_iload hx hb dX1_run_74 (lv_at hl 1 rfl) ?_
    refine lv_aload_n hx hb dX1_run_76 rfl (lv_at hl 4 rfl) ?_
    refine va_get (D := g.1) (ci := 7) (v := .ref ns) (C := RX7) (T := TX7) (N := 5) hx hb hts hi_X1_run_X7 hown hK hP 1 rfl rfl 3 (by decide) (hts (.fieldLink RX1 53 "OilPush$State" "store" "LOilPush$Store;") (by decide +kernel)) (fun _ h => h) rfl dX1_run_77 ?_
    refine va_get (D := g.1) (ci := 8) (v := .int 0) (C := RX8) (T := TX8) (N := 4) hx hb hts hi_X1_run_X8 hown hK hP 4 rfl rfl 0 (by decide) (hts (.fieldLink RX1 68 "OilPush$Store" "cap" "I") (by decide +kernel)) (fun _ h => h) rfl dX1_run_80 ?_
    refine lv_aload_n hx hb dX1_run_83 rfl (lv_at hl 4 rfl) ?_
    refine va_get (D := g.1) (ci := 7) (v := .ref ns) (C := RX7) (T := TX7) (N := 5) hx hb hts hi_X1_run_X7 hown hK hP 1 rfl rfl 3 (by decide) (hts (.fieldLink RX1 53 "OilPush$State" "store" "LOilPush$Store;") (by decide +kernel)) (fun _ h => h) rfl dX1_run_84 ?_
    refine va_get (D := g.1) (ci := 8) (v := .int 0) (C := RX8) (T := TX8) (N := 4) hx hb hts hi_X1_run_X8 hown hK hP 4 rfl rfl 3 (by decide) (hts (.fieldLink RX1 71 "OilPush$Store" "oil" "I") (by decide +kernel)) (fun _ h => h) rfl dX1_run_87 ?_
    refine lv_isub hx hb dX1_run_90 ?_
    refine nx_i (v := 0) (by decide) ?_
    refine va_mmin (x := 0) (y := 0) hx hb (by rw [hml]; exact hl.1.symm) hown (hts (.methodLink RX1 74 Lib.Math.min.name) (by decide +kernel)) (hts (.static Lib.Math.min.name) (by decide +kernel)) (hts (.initialized "java/lang/Math") (by decide +kernel)) (hts (.code Lib.Math.min.name Lib.Math.min.code 2 (some .int)) (by decide +kernel)) (Nat.le_of_ble_eq_true rfl) (Nat.le_of_ble_eq_true rfl) (Nat.le_of_ble_eq_true rfl) (Nat.le_of_ble_eq_true rfl) dX1_run_91 ?_
    refine nx_i (v := 0) (by decide) ?_
    refine lv_goto (tgt := 98) hx hb dX1_run_94 (by decide) ?_
    refine va_put (D := g.1) (ci := 1) (v := .int 0) (ty := .int) (C := RX1) (T := TX1) (N := 13) hx hb hts hi_X1_run_X1 tyX1 tyX1_ok nmX1 hown hK hP hD hS 3 rfl rfl 9 (by decide) (hts (.fieldLink RX1 80 "OilPush$Engine" "storeTook" "I") (by decide +kernel)) (fun _ h => h) rfl (by decide +kernel) rfl rfl (Nat.le_of_ble_eq_true rfl) dX1_run_98 (fun H locs hP hD hS => ?_)
    have hP : va_P g.1 vwCl [(et, .inl (g.2 0, 6, .inl z0)), (a1, .inr (7, [.ref no, .ref nv, .ref nb, .ref ns, .int 0])), (a0, .inr (4, [.int 0, .int 100, .ref b2, .int 0, .ref b4])), (a2, .inr (1, [.ref et, .ref el, .int 0, .ref en, .ref em, .ref ek, .int 0, .int 0, .int 0, .int 0, .long 0, .long 0, .long 0])), (ns, .inr (8, [.int 0, .int 0, .int 1, .int 0]))] H := hP
    have hD : va_D A [(et, .inl (g.2 0, 6, .inl z0)), (a1, .inr (7, [.ref no, .ref nv, .ref nb, .ref ns, .int 0])), (a0, .inr (4, [.int 0, .int 100, .ref b2, .int 0, .ref b4])), (a2, .inr (1, [.ref et, .ref el, .int 0, .ref en, .ref em, .ref ek, .int 0, .int 0, .int 0, .int 0, .long 0, .long 0, .long 0])), (ns, .inr (8, [.int 0, .int 0, .int 1, .int 0]))] := hD
    refine lv_aload_n hx hb dX1_run_101 rfl (lv_at hl 4 rfl) ?_
    refine va_get (D := g.1) (ci := 7) (v := .ref ns) (C := RX7) (T := TX7) (N := 5) hx hb hts hi_X1_run_X7 hown hK hP 1 rfl rfl 3 (by decide) (hts (.fieldLink RX1 53 "OilPush$State" "store" "LOilPush$Store;") (by decide +kernel)) (fun _ h => h) rfl dX1_run_102 ?_
    refine lv_dup hx hb dX1_run_105 rfl ?_
    refine va_get (D := g.1) (ci := 8) (v := .int 0) (C := RX8) (T := TX8) (N := 4) hx hb hts hi_X1_run_X8 hown hK hP 4 rfl rfl 3 (by decide) (hts (.fieldLink RX1 71 "OilPush$Store" "oil" "I") (by decide +kernel)) (fun _ h => h) rfl dX1_run_106 ?_
    refine lv_aload_n hx hb dX1_run_109 rfl (lv_at hl 2 rfl) ?_
    refine va_get (D := g.1) (ci := 1) (v := .int 0) (C := RX1) (T := TX1) (N := 13) hx hb hts hi_X1_run_X1 hown hK hP 3 rfl rfl 9 (by decide) (hts (.fieldLink RX1 80 "OilPush$Engine" "storeTook" "I") (by decide +kernel)) (fun _ h => h) rfl dX1_run_110 ?_
    refine lv_iadd hx hb dX1_run_113 ?_
    refine nx_i (v := 0) (by decide) ?_
    refine va_put (D := g.1) (ci := 8) (v := .int 0) (ty := .int) (C := RX8) (T := TX8) (N := 4) hx hb hts hi_X1_run_X8 tyX8 tyX8_ok nmX8 hown hK hP hD hS 4 rfl rfl 3 (by decide) (hts (.fieldLink RX1 71 "OilPush$Store" "oil" "I") (by decide +kernel)) (fun _ h => h) rfl (by decide +kernel) rfl rfl (Nat.le_of_ble_eq_true rfl) dX1_run_114 (fun H locs hP hD hS => ?_)
    have hP : va_P g.1 vwCl [(et, .inl (g.2 0, 6, .inl z0)), (a1, .inr (7, [.ref no, .ref nv, .ref nb, .ref ns, .int 0])), (a0, .inr (4, [.int 0, .int 100, .ref b2, .int 0, .ref b4])), (a2, .inr (1, [.ref et, .ref el, .int 0, .ref en, .ref em, .ref ek, .int 0, .int 0, .int 0, .int 0, .long 0, .long 0, .long 0])), (ns, .inr (8, [.int 0, .int 0, .int 1, .int 0]))] H := hP
    have hD : va_D A [(et, .inl (g.2 0, 6, .inl z0)), (a1, .inr (7, [.ref no, .ref nv, .ref nb, .ref ns, .int 0])), (a0, .inr (4, [.int 0, .int 100, .ref b2, .int 0, .ref b4])), (a2, .inr (1, [.ref et, .ref el, .int 0, .ref en, .ref em, .ref ek, .int 0, .int 0, .int 0, .int 0, .long 0, .long 0, .long 0])), (ns, .inr (8, [.int 0, .int 0, .int 1, .int 0]))] := hD
    refine lv_aload_n hx hb dX1_run_117 rfl (lv_at hl 2 rfl) ?_
    refine lv_iload hx hb dX1_run_118 (lv_at hl 1 rfl) ?_
    refine lv_aload_n hx hb dX1_run_120 rfl (lv_at hl 2 rfl) ?_
    refine va_get (D := g.1) (ci := 1) (v := .int 0) (C := RX1) (T := TX1) (N := 13) hx hb hts hi_X1_run_X1 hown hK hP 3 rfl rfl 9 (by decide) (hts (.fieldLink RX1 80 "OilPush$Engine" "storeTook" "I") (by decide +kernel)) (fun _ h => h) rfl dX1_run_121 ?_
    refine lv_isub hx hb dX1_run_124 ?_
    refine nx_i (v := 0) (by decide) ?_
    refine va_put (D := g.1) (ci := 1) (v := .int 0) (ty := .int) (C := RX1) (T := TX1) (N := 13) hx hb hts hi_X1_run_X1 tyX1 tyX1_ok nmX1 hown hK hP hD hS 3 rfl rfl 8 (by decide) (hts (.fieldLink RX1 83 "OilPush$Engine" "over" "I") (by decide +kernel)) (fun _ h => h) rfl (by decide +kernel) rfl rfl (Nat.le_of_ble_eq_true rfl) dX1_run_125 (fun H locs hP hD hS => ?_)
    have hP : va_P g.1 vwCl [(et, .inl (g.2 0, 6, .inl z0)), (a1, .inr (7, [.ref no, .ref nv, .ref nb, .ref ns, .int 0])), (a0, .inr (4, [.int 0, .int 100, .ref b2, .int 0, .ref b4])), (a2, .inr (1, [.ref et, .ref el, .int 0, .ref en, .ref em, .ref ek, .int 0, .int 0, .int 0, .int 0, .long 0, .long 0, .long 0])), (ns, .inr (8, [.int 0, .int 0, .int 1, .int 0]))] H := hP
    have hD : va_D A [(et, .inl (g.2 0, 6, .inl z0)), (a1, .inr (7, [.ref no, .ref nv, .ref nb, .ref ns, .int 0])), (a0, .inr (4, [.int 0, .int 100, .ref b2, .int 0, .ref b4])), (a2, .inr (1, [.ref et, .ref el, .int 0, .ref en, .ref em, .ref ek, .int 0, .int 0, .int 0, .int 0, .long 0, .long 0, .long 0])), (ns, .inr (8, [.int 0, .int 0, .int 1, .int 0]))] := hD
    refine lv_aload_n hx hb dX1_run_128 rfl (lv_at hl 2 rfl) ?_
    refine va_get (D := g.1) (ci := 1) (v := .int 0) (C := RX1) (T := TX1) (N := 13) hx hb hts hi_X1_run_X1 hown hK hP 3 rfl rfl 9 (by decide) (hts (.fieldLink RX1 80 "OilPush$Engine" "storeTook" "I") (by decide +kernel)) (fun _ h => h) rfl dX1_run_129 ?_
    refine lv_if_le (tgt := 148) hx hb dX1_run_132 (by decide) (fun _ => ?_) (fun cc0 => absurd cc0 (by decide))
    refine lv_aload_n hx hb dX1_run_148 rfl (lv_at hl 2 rfl) ?_
    refine va_get (D := g.1) (ci := 1) (v := .int 0) (C := RX1) (T := TX1) (N := 13) hx hb hts hi_X1_run_X1 hown hK hP 3 rfl rfl 8 (by decide) (hts (.fieldLink RX1 83 "OilPush$Engine" "over" "I") (by decide +kernel)) (fun _ h => h) rfl dX1_run_149 ?_
    refine lv_if_le (tgt := 163) hx hb dX1_run_152 (by decide) (fun _ => ?_) (fun cc0 => absurd cc0 (by decide))
    refine lv_aload_n hx hb dX1_run_163 rfl (lv_at hl 2 rfl) ?_
    refine lv_aload_n hx hb dX1_run_164 rfl (lv_at hl 3 rfl) ?_
    refine lv_iload hx hb dX1_run_165 (lv_at hl 0 rfl) ?_
    refine callVV (As := [.ref a0, .int 0]) (rest := []) (wr := [(et, .inl (g.2 0, 6, .inl z0)), (a1, .inr (7, [.ref no, .ref nv, .ref nb, .ref ns, .int 0])), (ns, .inr (8, [.int 0, .int 0, .int 1, .int 0]))]) (Cn := RX1) C (c_addUp l g a2 et el en em ek a0 b2 b4) 2 gX1_run_X1_addUp rfl (by decide +kernel) ⟨(Nat.le_of_ble_eq_true rfl), (Nat.le_of_ble_eq_true rfl)⟩ [3, 2] [0, 1, 4] hP hD hA hS rfl rfl rfl rfl (by decide) (k := 3) (ci := 1) rfl rfl rfl rfl hl.1 rfl (Nat.le_of_ble_eq_true rfl) dX1_run_167 ⟨(Nat.le_of_ble_eq_true rfl), (Nat.le_of_ble_eq_true rfl)⟩ (fun _u H locs hw hP hD hS => ?_)
    have hP : va_P g.1 vwCl [(et, .inl (g.2 0, 6, .inl z0)), (a1, .inr (7, [.ref no, .ref nv, .ref nb, .ref ns, .int 0])), (ns, .inr (8, [.int 0, .int 0, .int 1, .int 0])), (a2, .inr (1, [.ref et, .ref el, .int 0, .ref en, .ref em, .ref ek, .int 0, .int 0, .int 0, .int 0, .long 0, .long 0, .long 0])), (a0, .inr (4, [.int 0, .int 100, .ref b2, .int 0, .ref b4]))] H := hP
    have hD : va_D A [(et, .inl (g.2 0, 6, .inl z0)), (a1, .inr (7, [.ref no, .ref nv, .ref nb, .ref ns, .int 0])), (ns, .inr (8, [.int 0, .int 0, .int 1, .int 0])), (a2, .inr (1, [.ref et, .ref el, .int 0, .ref en, .ref em, .ref ek, .int 0, .int 0, .int 0, .int 0, .long 0, .long 0, .long 0])), (a0, .inr (4, [.int 0, .int 100, .ref b2, .int 0, .ref b4]))] := hD
    refine lv_iload hx hb dX1_run_170 (lv_at hl 1 rfl) ?_
    refine lv_if_ne (tgt := 180) hx hb dX1_run_172 (by decide) (fun cc0 => absurd cc0 (by decide)) (fun _ => ?_)
    refine lv_aload_n hx hb dX1_run_175 rfl (lv_at hl 2 rfl) ?_
    refine lv_aload_n hx hb dX1_run_176 rfl (lv_at hl 4 rfl) ?_
    refine callVV (As := [.ref a1]) (rest := []) (wr := [(et, .inl (g.2 0, 6, .inl z0)), (a1, .inr (7, [.ref no, .ref nv, .ref nb, .ref ns, .int 0])), (ns, .inr (8, [.int 0, .int 0, .int 1, .int 0])), (a0, .inr (4, [.int 0, .int 100, .ref b2, .int 0, .ref b4]))]) (Cn := RX1) C (c_fromStore l g a2 et el en em ek a1) 1 gX1_run_X1_takeFromStore rfl (by decide +kernel) ⟨(Nat.le_of_ble_eq_true rfl), (Nat.le_of_ble_eq_true rfl)⟩ [3] [0, 1, 2, 4] hP hD hA hS rfl rfl rfl rfl (by decide) (k := 3) (ci := 1) rfl rfl rfl rfl hl.1 rfl (Nat.le_of_ble_eq_true rfl) dX1_run_177 ⟨(Nat.le_of_ble_eq_true rfl), (Nat.le_of_ble_eq_true rfl)⟩ (fun _u H locs hw hP hD hS => ?_)
    have hP : va_P g.1 vwCl [(et, .inl (g.2 0, 6, .inl z0)), (a1, .inr (7, [.ref no, .ref nv, .ref nb, .ref ns, .int 0])), (ns, .inr (8, [.int 0, .int 0, .int 1, .int 0])), (a0, .inr (4, [.int 0, .int 100, .ref b2, .int 0, .ref b4])), (a2, .inr (1, [.ref et, .ref el, .int 0, .ref en, .ref em, .ref ek, .int 0, .int 0, .int 0, .int 0, .long 0, .long 0, .long 0]))] H := hP
    have hD : va_D A [(et, .inl (g.2 0, 6, .inl z0)), (a1, .inr (7, [.ref no, .ref nv, .ref nb, .ref ns, .int 0])), (ns, .inr (8, [.int 0, .int 0, .int 1, .int 0])), (a0, .inr (4, [.int 0, .int 100, .ref b2, .int 0, .ref b4])), (a2, .inr (1, [.ref et, .ref el, .int 0, .ref en, .ref em, .ref ek, .int 0, .int 0, .int 0, .int 0, .long 0, .long 0, .long 0]))] := hD
    exact retV C hS () rfl (hP.pick [4, 0, 3, 1, 2] rfl) (hD.sub [4, 0, 3, 1, 2] rfl rfl) (Nat.le_of_ble_eq_true rfl) (Nat.le_of_ble_eq_true rfl) dX1_run_180
  refine lv_aload_n hx hb dX1_run_10 rfl (lv_at hl 1 rfl) ?_
  refine va_get (D := g.1) (ci := 1) (v := .ref et) (C := RX1) (T := TX1) (N := 13) hx hb hts hi_X1_run_X1 hown hK hP 0 rfl rfl 0 (by decide) (hts (.fieldLink RX1 9 "OilPush$Engine" "took" "[I") (by decide +kernel)) (fun _ h => h) rfl dX1_run_11 ?_
  refine lv_iload hx hb dX1_run_14 (lv_at hl 0 rfl) ?_
  refine lv_aload_n hx hb dX1_run_16 rfl (lv_at hl 1 rfl) ?_
  refine lv_aload_n hx hb dX1_run_17 rfl (lv_at hl 2 rfl) ?_
  refine lv_iload hx hb dX1_run_18 (lv_at hl 0 rfl) ?_
  refine callQV (As := [.int ix]) (rest := [.ref a2, .int ix, .ref et]) (wr := [(a2, .inr (1, [.ref et, .ref el, .int 0, .ref en, .ref em, .ref ek, .int 0, .int 0, .int 0, .int 0, .long 0, .long 0, .long 0])), (et, .inl (g.2 0, 6, .inl z0)), (a1, .inr (7, [.ref no, .ref nv, .ref nb, .ref ns, .int 0])), (ns, .inr (8, [.int 0, .int 0, .int 1, .int 0]))]) (Cn := RX4) C (c_at l g a0 0 100 b2 b4 ix) 1 gX1_run_X4_at rfl (by decide +kernel) ⟨(Nat.le_of_ble_eq_true rfl), (Nat.le_of_ble_eq_true rfl)⟩ [2] [0, 1, 3, 4] hP hD hA hS rfl rfl rfl rfl (by decide) (k := 2) (ci := 4) rfl rfl rfl rfl hl.1 rfl (Nat.le_of_ble_eq_true rfl) dX1_run_20 ⟨(Nat.le_of_ble_eq_true rfl), (Nat.le_of_ble_eq_true rfl)⟩ (fun r _u H locs hw hP hD hS => ?_)
  have hP : va_P g.1 vwCl [(a2, .inr (1, [.ref et, .ref el, .int 0, .ref en, .ref em, .ref ek, .int 0, .int 0, .int 0, .int 0, .long 0, .long 0, .long 0])), (et, .inl (g.2 0, 6, .inl z0)), (a1, .inr (7, [.ref no, .ref nv, .ref nb, .ref ns, .int 0])), (ns, .inr (8, [.int 0, .int 0, .int 1, .int 0])), (a0, .inr (4, [.int 0, .int 100, .ref b2, .int 0, .ref b4]))] H := hP
  have hD : va_D A [(a2, .inr (1, [.ref et, .ref el, .int 0, .ref en, .ref em, .ref ek, .int 0, .int 0, .int 0, .int 0, .long 0, .long 0, .long 0])), (et, .inl (g.2 0, 6, .inl z0)), (a1, .inr (7, [.ref no, .ref nv, .ref nb, .ref ns, .int 0])), (ns, .inr (8, [.int 0, .int 0, .int 1, .int 0])), (a0, .inr (4, [.int 0, .int 100, .ref b2, .int 0, .ref b4]))] := hD
  subst hw
  refine nx_v (v := .null) rfl ?_
  refine lv_aload_n hx hb dX1_run_23 rfl (lv_at hl 3 rfl) ?_
  refine lv_aload_n hx hb dX1_run_24 rfl (lv_at hl 4 rfl) ?_
  refine callIV (As := [.null, .ref a1, .ref b4]) (rest := [.int ix, .ref et]) (wr := [(et, .inl (g.2 0, 6, .inl z0)), (a1, .inr (7, [.ref no, .ref nv, .ref nb, .ref ns, .int 0])), (ns, .inr (8, [.int 0, .int 0, .int 1, .int 0])), (a0, .inr (4, [.int 0, .int 100, .ref b2, .int 0, .ref b4]))]) (Cn := RX1) C (c_drain l g a2 et el en em ek a1 b4) 3 gX1_run_X1_drain rfl (by decide +kernel) ⟨(Nat.le_of_ble_eq_true rfl), (Nat.le_of_ble_eq_true rfl)⟩ [0] [1, 2, 3, 4] hP hD hA hS rfl rfl rfl rfl (by decide) (k := 0) (ci := 1) rfl rfl rfl rfl hl.1 rfl (Nat.le_of_ble_eq_true rfl) dX1_run_25 ⟨(Nat.le_of_ble_eq_true rfl), (Nat.le_of_ble_eq_true rfl)⟩ (fun r _u H locs hw hP hD hS => ?_)
  have hP : va_P g.1 vwCl [(et, .inl (g.2 0, 6, .inl z0)), (a1, .inr (7, [.ref no, .ref nv, .ref nb, .ref ns, .int 0])), (ns, .inr (8, [.int 0, .int 0, .int 1, .int 0])), (a0, .inr (4, [.int 0, .int 100, .ref b2, .int 0, .ref b4])), (a2, .inr (1, [.ref et, .ref el, .int 0, .ref en, .ref em, .ref ek, .int 0, .int 0, .int 0, .int 0, .long 0, .long 0, .long 0]))] H := hP
  have hD : va_D A [(et, .inl (g.2 0, 6, .inl z0)), (a1, .inr (7, [.ref no, .ref nv, .ref nb, .ref ns, .int 0])), (ns, .inr (8, [.int 0, .int 0, .int 1, .int 0])), (a0, .inr (4, [.int 0, .int 100, .ref b2, .int 0, .ref b4])), (a2, .inr (1, [.ref et, .ref el, .int 0, .ref en, .ref em, .ref ek, .int 0, .int 0, .int 0, .int 0, .long 0, .long 0, .long 0]))] := hD
  subst hw
  refine lv_ineg hx hb dX1_run_28 ?_
  refine nx_i (v := 0) (by decide) ?_
  refine callVN (host := "OilPush") (As := [.ref et, .int ix, .int 0]) (rest := []) (wr := [(a1, .inr (7, [.ref no, .ref nv, .ref nb, .ref ns, .int 0])), (ns, .inr (8, [.int 0, .int 0, .int 1, .int 0])), (a0, .inr (4, [.int 0, .int 100, .ref b2, .int 0, .ref b4])), (a2, .inr (1, [.ref et, .ref el, .int 0, .ref en, .ref em, .ref ek, .int 0, .int 0, .int 0, .int 0, .long 0, .long 0, .long 0]))]) C (c_set0 l g et 6 ix (by decide)) 3 gX1_run_X11_set_n37 rfl (hN.nest 15 rfl) (by decide +kernel) (by decide +kernel) (by decide +kernel) ⟨(Nat.le_of_ble_eq_true rfl), (Nat.le_of_ble_eq_true rfl)⟩ [0] [1, 2, 3, 4] hP hD hA hS rfl rfl rfl rfl (by decide) rfl hl.1 rfl (Nat.le_of_ble_eq_true rfl) dX1_run_29 ⟨(Nat.le_of_ble_eq_true rfl), (Nat.le_of_ble_eq_true rfl)⟩ (fun _u H locs hw hP hD hS => ?_)
  have hP : va_P g.1 vwCl [(a1, .inr (7, [.ref no, .ref nv, .ref nb, .ref ns, .int 0])), (ns, .inr (8, [.int 0, .int 0, .int 1, .int 0])), (a0, .inr (4, [.int 0, .int 100, .ref b2, .int 0, .ref b4])), (a2, .inr (1, [.ref et, .ref el, .int 0, .ref en, .ref em, .ref ek, .int 0, .int 0, .int 0, .int 0, .long 0, .long 0, .long 0])), (et, .inl (g.2 0, 6, .inl z0))] H := hP
  have hD : va_D A [(a1, .inr (7, [.ref no, .ref nv, .ref nb, .ref ns, .int 0])), (ns, .inr (8, [.int 0, .int 0, .int 1, .int 0])), (a0, .inr (4, [.int 0, .int 100, .ref b2, .int 0, .ref b4])), (a2, .inr (1, [.ref et, .ref el, .int 0, .ref en, .ref em, .ref ek, .int 0, .int 0, .int 0, .int 0, .long 0, .long 0, .long 0])), (et, .inl (g.2 0, 6, .inl z0))] := hD
  refine lv_iinc (v := (ix + 1)) (lv' := [(4, .int (ix + 1)), (0, .ref a2), (1, .ref a0), (2, .ref a1), (3, .ref b4)]) hx hb dX1_run_32 hl (k := 0) rfl rfl (by decide) rfl (fun ls hl => ?_)
  refine lv_goto (tgt := 3) hx hb dX1_run_35 (by decide) ?_
  have hx1 := inc_toInt c1
  exact ih (ix + 1) ls H locs ⟨(by omega), (by exact inc_le c1), lv_sub hl [0, 1, 2, 3, 4] rfl, hP.pick [3, 4, 2, 0, 1] rfl, hS⟩ (by exact inc_mu c1 hib)
theorem within_ge {v lo hi : Int32} (h : ¬ r_c_within v lo hi = 0) : lo.toInt ≤ v.toInt ∧ v.toInt ≤ hi.toInt := by
  rw [within_eq] at h
  by_cases h2 : lo.toInt ≤ v.toInt ∧ v.toInt ≤ hi.toInt
  · exact h2
  · rw [if_neg h2] at h; exact absurd rfl h
theorem in_ge {v : Int32} {lo hi : Int64} (h : ¬ r_c_in v.toInt64 lo hi = 0) : lo.toInt ≤ v.toInt ∧ v.toInt ≤ hi.toInt := by
  rw [in_eq, Int32.toInt_toInt64] at h
  by_cases h2 : lo.toInt ≤ v.toInt ∧ v.toInt ≤ hi.toInt
  · exact h2
  · rw [if_neg h2] at h; exact absurd rfl h
theorem hi_X11_tick_X11 : ∀ w ∈ wsX110, w ∈ wsX11_tick := fun w h => List.mem_cons_of_mem _ (List.mem_append_left _ (List.mem_append_left _ (List.mem_append_left _ (List.mem_append_left _ (List.mem_append_left _ (List.mem_append_left _ (List.mem_append_left _ (List.mem_append_left _ (List.mem_append_right _ h)))))))))
theorem hi_X11_tick_X4 : ∀ w ∈ wsX40, w ∈ wsX11_tick := fun w h => List.mem_cons_of_mem _ (List.mem_append_left _ (List.mem_append_left _ (List.mem_append_left _ (List.mem_append_left _ (List.mem_append_left _ (List.mem_append_left _ (List.mem_append_left _ (List.mem_append_right _ h))))))))
def r_x_tick (x1 : Int32) : Int32 := (if (r_c_within x1 0 200) = 0 then (-2) else (if (0 + x1) ≤ 100000 then (if x1 ≤ 0 then (0 + x1) else (0 + x1)) else (-3)))
set_option maxRecDepth 100000 in
set_option maxHeartbeats 4000000 in
theorem x_tick (l : Launch) (g : Gt) (h0 : Nat) (a0 : Nat) (a1 : Nat) (a2 : Nat) (a3 : Nat) (a4 : Nat) (a5 : Nat) (a6 : Nat) (a7 : Nat) (a8 : Nat) (a9 : Nat) (a10 : Nat) (ow : Nat) (oe : Nat) (ot : Nat) (ov : Nat) (b2 : Nat) (b4 : Nat) (no : Nat) (nv : Nat) (nb : Nat) (ns : Nat) (et : Nat) (el : Nat) (en : Nat) (em : Nat) (ek : Nat) (x1 : Int32)  : Ctr l g yX11_tick wsX11_tick ({ frames := 2, cells := 0, slots := 0, locals := 51 } : Room) [.ref h0, .int x1] [(h0, .inr (11, [.ref a0, .ref a1, .ref a2, .ref a3, .ref a4, .ref a5, .ref a6, .ref a7, .ref a8, .ref a9, .ref a10, .int 0, .int 0, .int 0, .int 0])), (a3, .inr (3, [.ref ow, .ref oe, .ref ot, .ref ov, .int 0])), (a2, .inr (1, [.ref et, .ref el, .int 0, .ref en, .ref em, .ref ek, .int 0, .int 0, .int 0, .int 0, .long 0, .long 0, .long 0])), (et, .inl (g.2 0, 6, .inl z0)), (a0, .inr (4, [.int 0, .int 100, .ref b2, .int 0, .ref b4])), (a1, .inr (7, [.ref no, .ref nv, .ref nb, .ref ns, .int 0])), (ns, .inr (8, [.int 0, .int 0, .int 1, .int 0]))] (fun A => QI g A (fun r (_ : Unit) => r = (r_x_tick x1)) (fun _u : Unit => [])) := by
  refine Ctr.of (cc := cX11_tick) (maxL := 3) (ret := (some .int)) (by decide) rfl (Nat.le_of_ble_eq_true rfl) ?_
  intro p e s m below meth c A ls H C hP hD hA hS hl
  obtain ⟨hx, hb, hr, hts, hown, hlocks, hml, hin, hKN⟩ := id C
  have hK := hKN.1
  have hN := hKN.2
  have F : CallFix p m c cX11_tick 3 s _ wsX11_tick yX11_tick.cls := ⟨hx, hb, hml, hown, hts⟩
  have hl : lv_has ls 3 [(0, .ref h0), (1, .int x1)] := hl
  refine lv_iload_n hx hb dX11_tick_0 rfl (lv_at hl 1 rfl) ?_
  refine lv_iconst (v := 0) hx hb dX11_tick_1 (by decide) ?_
  refine lv_sipush (v := 200) hx hb dX11_tick_2 (by decide) ?_
  refine pureIS (As := [.int x1, .int 0, .int 200]) (rest := []) F (c_within l x1 0 200) 3 gX11_tick_X11_within rfl (by decide +kernel) rfl rfl ⟨(Nat.le_of_ble_eq_true rfl), (Nat.le_of_ble_eq_true rfl)⟩ (Nat.le_of_ble_eq_true rfl) (Nat.le_of_ble_eq_true rfl) rfl hl.1 rfl (Nat.le_of_ble_eq_true rfl) dX11_tick_5 ?_
  refine lv_if_ne (tgt := 14) hx hb dX11_tick_8 (by decide) (fun c1 => ?_) (fun c1 => ?_)
  · refine lv_aload_n hx hb dX11_tick_14 rfl (lv_at hl 0 rfl) ?_
    refine va_get (D := g.1) (ci := 11) (v := .int 0) (C := RX11) (T := TX11) (N := 15) hx hb hts hi_X11_tick_X11 hown hK hP 0 rfl rfl 14 (by decide) (hts (.fieldLink RX11 197 "OilPush" "ticks" "I") (by decide +kernel)) (fun _ h => h) rfl dX11_tick_15 ?_
    refine lv_iload_n hx hb dX11_tick_18 rfl (lv_at hl 1 rfl) ?_
    refine lv_iadd hx hb dX11_tick_19 ?_
    refine lv_ldc (v := 100000) hx hb hown (hts (.constant RX11 131 (100000)) (by decide +kernel)) dX11_tick_20 ?_
    refine lv_icmp_le (tgt := 28) hx hb dX11_tick_22 (by decide) (fun c2 => ?_) (fun c2 => ?_)
    · refine lv_iconst (v := 0) hx hb dX11_tick_28 (by decide) ?_
      refine lv_istore_n (lv' := [(2, .int 0), (0, .ref h0), (1, .int x1)]) hx hb dX11_tick_29 rfl hl (by decide) rfl (fun ls hl => ?_)
      refine W.loop (α := Int32) (P := fun (ix : Int32) ls H locs => 0 ≤ ix.toInt ∧ ix.toInt ≤ x1.toInt ∧ lv_has ls 3 [(2, .int ix), (0, .ref h0), (1, .int x1)] ∧ va_P g.1 vwCl [(h0, .inr (11, [.ref a0, .ref a1, .ref a2, .ref a3, .ref a4, .ref a5, .ref a6, .ref a7, .ref a8, .ref a9, .ref a10, .int 0, .int 0, .int 0, .int 0])), (a3, .inr (3, [.ref ow, .ref oe, .ref ot, .ref ov, .int 0])), (a2, .inr (1, [.ref et, .ref el, .int 0, .ref en, .ref em, .ref ek, .int 0, .int 0, .int 0, .int 0, .long 0, .long 0, .long 0])), (et, .inl (g.2 0, 6, .inl z0)), (a0, .inr (4, [.int 0, .int 100, .ref b2, .int 0, .ref b4])), (a1, .inr (7, [.ref no, .ref nv, .ref nb, .ref ns, .int 0])), (ns, .inr (8, [.int 0, .int 0, .int 1, .int 0]))] H ∧ va_S A s.heap H locs) (μ := fun (ix : Int32) => (x1.toInt - ix.toInt).toNat) 0 ⟨(by decide), (within_ge c1).1, hl, hP, hS⟩ (fun ix ls H locs hh ih => ?_)
      obtain ⟨hi0, hib, hl, hP, hS⟩ := hh
      refine lv_iload_n hx hb dX11_tick_30 rfl (lv_at hl 0 rfl) ?_
      refine lv_iload_n hx hb dX11_tick_31 rfl (lv_at hl 2 rfl) ?_
      refine lv_icmp_ge (tgt := 78) hx hb dX11_tick_32 (by decide) (fun c3 => ?_) (fun c3 => ?_)
      · refine lv_aload_n hx hb dX11_tick_78 rfl (lv_at hl 1 rfl) ?_
        refine lv_dup hx hb dX11_tick_79 rfl ?_
        refine va_get (D := g.1) (ci := 11) (v := .int 0) (C := RX11) (T := TX11) (N := 15) hx hb hts hi_X11_tick_X11 hown hK hP 0 rfl rfl 14 (by decide) (hts (.fieldLink RX11 197 "OilPush" "ticks" "I") (by decide +kernel)) (fun _ h => h) rfl dX11_tick_80 ?_
        refine lv_iload_n hx hb dX11_tick_83 rfl (lv_at hl 2 rfl) ?_
        refine lv_iadd hx hb dX11_tick_84 ?_
        refine va_put (D := g.1) (ci := 11) (v := .int (0 + x1)) (ty := .int) (C := RX11) (T := TX11) (N := 15) hx hb hts hi_X11_tick_X11 tyX11 tyX11_ok nmX11 hown hK hP hD hS 0 rfl rfl 14 (by decide) (hts (.fieldLink RX11 197 "OilPush" "ticks" "I") (by decide +kernel)) (fun _ h => h) rfl (by decide +kernel) rfl rfl (Nat.le_of_ble_eq_true rfl) dX11_tick_85 (fun H locs hP hD hS => ?_)
        have hP : va_P g.1 vwCl [(h0, .inr (11, [.ref a0, .ref a1, .ref a2, .ref a3, .ref a4, .ref a5, .ref a6, .ref a7, .ref a8, .ref a9, .ref a10, .int 0, .int 0, .int 0, .int (0 + x1)])), (a3, .inr (3, [.ref ow, .ref oe, .ref ot, .ref ov, .int 0])), (a2, .inr (1, [.ref et, .ref el, .int 0, .ref en, .ref em, .ref ek, .int 0, .int 0, .int 0, .int 0, .long 0, .long 0, .long 0])), (et, .inl (g.2 0, 6, .inl z0)), (a0, .inr (4, [.int 0, .int 100, .ref b2, .int 0, .ref b4])), (a1, .inr (7, [.ref no, .ref nv, .ref nb, .ref ns, .int 0])), (ns, .inr (8, [.int 0, .int 0, .int 1, .int 0]))] H := hP
        have hD : va_D A [(h0, .inr (11, [.ref a0, .ref a1, .ref a2, .ref a3, .ref a4, .ref a5, .ref a6, .ref a7, .ref a8, .ref a9, .ref a10, .int 0, .int 0, .int 0, .int (0 + x1)])), (a3, .inr (3, [.ref ow, .ref oe, .ref ot, .ref ov, .int 0])), (a2, .inr (1, [.ref et, .ref el, .int 0, .ref en, .ref em, .ref ek, .int 0, .int 0, .int 0, .int 0, .long 0, .long 0, .long 0])), (et, .inl (g.2 0, 6, .inl z0)), (a0, .inr (4, [.int 0, .int 100, .ref b2, .int 0, .ref b4])), (a1, .inr (7, [.ref no, .ref nv, .ref nb, .ref ns, .int 0])), (ns, .inr (8, [.int 0, .int 0, .int 1, .int 0]))] := hD
        refine lv_aload_n hx hb dX11_tick_88 rfl (lv_at hl 1 rfl) ?_
        refine lv_aload_n hx hb dX11_tick_89 rfl (lv_at hl 1 rfl) ?_
        refine va_get (D := g.1) (ci := 11) (v := .int 0) (C := RX11) (T := TX11) (N := 15) hx hb hts hi_X11_tick_X11 hown hK hP 0 rfl rfl 13 (by decide) (hts (.fieldLink RX11 208 "OilPush" "ticked" "Z") (by decide +kernel)) (fun _ h => h) rfl dX11_tick_90 ?_
        refine lv_if_ne (tgt := 100) hx hb dX11_tick_93 (by decide) (fun cc0 => absurd cc0 (by decide)) (fun _ => ?_)
        refine lv_iload_n hx hb dX11_tick_96 rfl (lv_at hl 2 rfl) ?_
        refine lv_if_le (tgt := 104) hx hb dX11_tick_97 (by decide) (fun c4 => ?_) (fun c4 => ?_)
        · refine lv_iconst (v := 0) hx hb dX11_tick_104 (by decide) ?_
          refine va_put (D := g.1) (ci := 11) (v := .int 0) (ty := .boolean) (C := RX11) (T := TX11) (N := 15) hx hb hts hi_X11_tick_X11 tyX11 tyX11_ok nmX11 hown hK hP hD hS 0 rfl rfl 13 (by decide) (hts (.fieldLink RX11 208 "OilPush" "ticked" "Z") (by decide +kernel)) (fun _ h => h) rfl (by decide +kernel) rfl rfl (Nat.le_of_ble_eq_true rfl) dX11_tick_105 (fun H locs hP hD hS => ?_)
          have hP : va_P g.1 vwCl [(h0, .inr (11, [.ref a0, .ref a1, .ref a2, .ref a3, .ref a4, .ref a5, .ref a6, .ref a7, .ref a8, .ref a9, .ref a10, .int 0, .int 0, .int 0, .int (0 + x1)])), (a3, .inr (3, [.ref ow, .ref oe, .ref ot, .ref ov, .int 0])), (a2, .inr (1, [.ref et, .ref el, .int 0, .ref en, .ref em, .ref ek, .int 0, .int 0, .int 0, .int 0, .long 0, .long 0, .long 0])), (et, .inl (g.2 0, 6, .inl z0)), (a0, .inr (4, [.int 0, .int 100, .ref b2, .int 0, .ref b4])), (a1, .inr (7, [.ref no, .ref nv, .ref nb, .ref ns, .int 0])), (ns, .inr (8, [.int 0, .int 0, .int 1, .int 0]))] H := hP
          have hD : va_D A [(h0, .inr (11, [.ref a0, .ref a1, .ref a2, .ref a3, .ref a4, .ref a5, .ref a6, .ref a7, .ref a8, .ref a9, .ref a10, .int 0, .int 0, .int 0, .int (0 + x1)])), (a3, .inr (3, [.ref ow, .ref oe, .ref ot, .ref ov, .int 0])), (a2, .inr (1, [.ref et, .ref el, .int 0, .ref en, .ref em, .ref ek, .int 0, .int 0, .int 0, .int 0, .long 0, .long 0, .long 0])), (et, .inl (g.2 0, 6, .inl z0)), (a0, .inr (4, [.int 0, .int 100, .ref b2, .int 0, .ref b4])), (a1, .inr (7, [.ref no, .ref nv, .ref nb, .ref ns, .int 0])), (ns, .inr (8, [.int 0, .int 0, .int 1, .int 0]))] := hD
          refine lv_aload_n hx hb dX11_tick_108 rfl (lv_at hl 1 rfl) ?_
          refine va_get (D := g.1) (ci := 11) (v := .int (0 + x1)) (C := RX11) (T := TX11) (N := 15) hx hb hts hi_X11_tick_X11 hown hK hP 0 rfl rfl 14 (by decide) (hts (.fieldLink RX11 197 "OilPush" "ticks" "I") (by decide +kernel)) (fun _ h => h) rfl dX11_tick_109 ?_
          exact retI C hS () (by unfold r_x_tick; rw [if_neg c1, if_pos c2, if_pos c4]) (hP.pick [] rfl) (hD.sub [] rfl rfl) (Nat.le_of_ble_eq_true rfl) (Nat.le_of_ble_eq_true rfl) dX11_tick_112
        refine lv_iconst (v := 1) hx hb dX11_tick_100 (by decide) ?_
        refine lv_goto (tgt := 105) hx hb dX11_tick_101 (by decide) ?_
        refine va_put (D := g.1) (ci := 11) (v := .int 1) (ty := .boolean) (C := RX11) (T := TX11) (N := 15) hx hb hts hi_X11_tick_X11 tyX11 tyX11_ok nmX11 hown hK hP hD hS 0 rfl rfl 13 (by decide) (hts (.fieldLink RX11 208 "OilPush" "ticked" "Z") (by decide +kernel)) (fun _ h => h) rfl (by decide +kernel) rfl rfl (Nat.le_of_ble_eq_true rfl) dX11_tick_105 (fun H locs hP hD hS => ?_)
        have hP : va_P g.1 vwCl [(h0, .inr (11, [.ref a0, .ref a1, .ref a2, .ref a3, .ref a4, .ref a5, .ref a6, .ref a7, .ref a8, .ref a9, .ref a10, .int 0, .int 0, .int 1, .int (0 + x1)])), (a3, .inr (3, [.ref ow, .ref oe, .ref ot, .ref ov, .int 0])), (a2, .inr (1, [.ref et, .ref el, .int 0, .ref en, .ref em, .ref ek, .int 0, .int 0, .int 0, .int 0, .long 0, .long 0, .long 0])), (et, .inl (g.2 0, 6, .inl z0)), (a0, .inr (4, [.int 0, .int 100, .ref b2, .int 0, .ref b4])), (a1, .inr (7, [.ref no, .ref nv, .ref nb, .ref ns, .int 0])), (ns, .inr (8, [.int 0, .int 0, .int 1, .int 0]))] H := hP
        have hD : va_D A [(h0, .inr (11, [.ref a0, .ref a1, .ref a2, .ref a3, .ref a4, .ref a5, .ref a6, .ref a7, .ref a8, .ref a9, .ref a10, .int 0, .int 0, .int 1, .int (0 + x1)])), (a3, .inr (3, [.ref ow, .ref oe, .ref ot, .ref ov, .int 0])), (a2, .inr (1, [.ref et, .ref el, .int 0, .ref en, .ref em, .ref ek, .int 0, .int 0, .int 0, .int 0, .long 0, .long 0, .long 0])), (et, .inl (g.2 0, 6, .inl z0)), (a0, .inr (4, [.int 0, .int 100, .ref b2, .int 0, .ref b4])), (a1, .inr (7, [.ref no, .ref nv, .ref nb, .ref ns, .int 0])), (ns, .inr (8, [.int 0, .int 0, .int 1, .int 0]))] := hD
        refine lv_aload_n hx hb dX11_tick_108 rfl (lv_at hl 1 rfl) ?_
        refine va_get (D := g.1) (ci := 11) (v := .int (0 + x1)) (C := RX11) (T := TX11) (N := 15) hx hb hts hi_X11_tick_X11 hown hK hP 0 rfl rfl 14 (by decide) (hts (.fieldLink RX11 197 "OilPush" "ticks" "I") (by decide +kernel)) (fun _ h => h) rfl dX11_tick_109 ?_
        exact retI C hS () (by unfold r_x_tick; rw [if_neg c1, if_pos c2, if_neg c4]) (hP.pick [] rfl) (hD.sub [] rfl rfl) (Nat.le_of_ble_eq_true rfl) (Nat.le_of_ble_eq_true rfl) dX11_tick_112
      refine lv_aload_n hx hb dX11_tick_35 rfl (lv_at hl 1 rfl) ?_
      refine va_get (D := g.1) (ci := 11) (v := .ref a3) (C := RX11) (T := TX11) (N := 15) hx hb hts hi_X11_tick_X11 hown hK hP 0 rfl rfl 3 (by decide) (hts (.fieldLink RX11 35 "OilPush" "orders" "LOilPush$Orders;") (by decide +kernel)) (fun _ h => h) rfl dX11_tick_36 ?_
      refine lv_aload_n hx hb dX11_tick_39 rfl (lv_at hl 1 rfl) ?_
      refine va_get (D := g.1) (ci := 11) (v := .ref a0) (C := RX11) (T := TX11) (N := 15) hx hb hts hi_X11_tick_X11 hown hK hP 0 rfl rfl 0 (by decide) (hts (.fieldLink RX11 12 "OilPush" "plant" "LOilPush$Plant;") (by decide +kernel)) (fun _ h => h) rfl dX11_tick_40 ?_
      refine lv_aload_n hx hb dX11_tick_43 rfl (lv_at hl 1 rfl) ?_
      refine va_get (D := g.1) (ci := 11) (v := .ref a1) (C := RX11) (T := TX11) (N := 15) hx hb hts hi_X11_tick_X11 hown hK hP 0 rfl rfl 1 (by decide) (hts (.fieldLink RX11 21 "OilPush" "now" "LOilPush$State;") (by decide +kernel)) (fun _ h => h) rfl dX11_tick_44 ?_
      refine callVV (As := [.ref a0, .ref a1]) (rest := []) (wr := [(h0, .inr (11, [.ref a0, .ref a1, .ref a2, .ref a3, .ref a4, .ref a5, .ref a6, .ref a7, .ref a8, .ref a9, .ref a10, .int 0, .int 0, .int 0, .int 0])), (a2, .inr (1, [.ref et, .ref el, .int 0, .ref en, .ref em, .ref ek, .int 0, .int 0, .int 0, .int 0, .long 0, .long 0, .long 0])), (et, .inl (g.2 0, 6, .inl z0)), (a0, .inr (4, [.int 0, .int 100, .ref b2, .int 0, .ref b4])), (ns, .inr (8, [.int 0, .int 0, .int 1, .int 0]))]) (Cn := RX3) C (c_obey l g a3 ow oe ot ov a0 a1 no nv nb ns) 2 gX11_tick_X3_obey rfl (by decide +kernel) ⟨(Nat.le_of_ble_eq_true rfl), (Nat.le_of_ble_eq_true rfl)⟩ [1, 5] [0, 2, 3, 4, 6] hP hD hA hS rfl rfl rfl rfl (by decide) (k := 1) (ci := 3) rfl rfl rfl rfl hl.1 rfl (Nat.le_of_ble_eq_true rfl) dX11_tick_47 ⟨(Nat.le_of_ble_eq_true rfl), (Nat.le_of_ble_eq_true rfl)⟩ (fun _u H locs hw hP hD hS => ?_)
      have hP : va_P g.1 vwCl [(h0, .inr (11, [.ref a0, .ref a1, .ref a2, .ref a3, .ref a4, .ref a5, .ref a6, .ref a7, .ref a8, .ref a9, .ref a10, .int 0, .int 0, .int 0, .int 0])), (a2, .inr (1, [.ref et, .ref el, .int 0, .ref en, .ref em, .ref ek, .int 0, .int 0, .int 0, .int 0, .long 0, .long 0, .long 0])), (et, .inl (g.2 0, 6, .inl z0)), (a0, .inr (4, [.int 0, .int 100, .ref b2, .int 0, .ref b4])), (ns, .inr (8, [.int 0, .int 0, .int 1, .int 0])), (a3, .inr (3, [.ref ow, .ref oe, .ref ot, .ref ov, .int 0])), (a1, .inr (7, [.ref no, .ref nv, .ref nb, .ref ns, .int 0]))] H := hP
      have hD : va_D A [(h0, .inr (11, [.ref a0, .ref a1, .ref a2, .ref a3, .ref a4, .ref a5, .ref a6, .ref a7, .ref a8, .ref a9, .ref a10, .int 0, .int 0, .int 0, .int 0])), (a2, .inr (1, [.ref et, .ref el, .int 0, .ref en, .ref em, .ref ek, .int 0, .int 0, .int 0, .int 0, .long 0, .long 0, .long 0])), (et, .inl (g.2 0, 6, .inl z0)), (a0, .inr (4, [.int 0, .int 100, .ref b2, .int 0, .ref b4])), (ns, .inr (8, [.int 0, .int 0, .int 1, .int 0])), (a3, .inr (3, [.ref ow, .ref oe, .ref ot, .ref ov, .int 0])), (a1, .inr (7, [.ref no, .ref nv, .ref nb, .ref ns, .int 0]))] := hD
      refine lv_aload_n hx hb dX11_tick_50 rfl (lv_at hl 1 rfl) ?_
      refine va_get (D := g.1) (ci := 11) (v := .ref a2) (C := RX11) (T := TX11) (N := 15) hx hb hts hi_X11_tick_X11 hown hK hP 0 rfl rfl 2 (by decide) (hts (.fieldLink RX11 28 "OilPush" "engine" "LOilPush$Engine;") (by decide +kernel)) (fun _ h => h) rfl dX11_tick_51 ?_
      refine lv_aload_n hx hb dX11_tick_54 rfl (lv_at hl 1 rfl) ?_
      refine va_get (D := g.1) (ci := 11) (v := .ref a0) (C := RX11) (T := TX11) (N := 15) hx hb hts hi_X11_tick_X11 hown hK hP 0 rfl rfl 0 (by decide) (hts (.fieldLink RX11 12 "OilPush" "plant" "LOilPush$Plant;") (by decide +kernel)) (fun _ h => h) rfl dX11_tick_55 ?_
      refine lv_aload_n hx hb dX11_tick_58 rfl (lv_at hl 1 rfl) ?_
      refine va_get (D := g.1) (ci := 11) (v := .ref a1) (C := RX11) (T := TX11) (N := 15) hx hb hts hi_X11_tick_X11 hown hK hP 0 rfl rfl 1 (by decide) (hts (.fieldLink RX11 21 "OilPush" "now" "LOilPush$State;") (by decide +kernel)) (fun _ h => h) rfl dX11_tick_59 ?_
      refine lv_aload_n hx hb dX11_tick_62 rfl (lv_at hl 1 rfl) ?_
      refine va_get (D := g.1) (ci := 11) (v := .ref a0) (C := RX11) (T := TX11) (N := 15) hx hb hts hi_X11_tick_X11 hown hK hP 0 rfl rfl 0 (by decide) (hts (.fieldLink RX11 12 "OilPush" "plant" "LOilPush$Plant;") (by decide +kernel)) (fun _ h => h) rfl dX11_tick_63 ?_
      refine va_get (D := g.1) (ci := 4) (v := .ref b4) (C := RX4) (T := TX4) (N := 5) hx hb hts hi_X11_tick_X4 hown hK hP 3 rfl rfl 4 (by decide) (hts (.fieldLink RX11 103 "OilPush$Plant" "leaks" "[I") (by decide +kernel)) (fun _ h => h) rfl dX11_tick_66 ?_
      refine callVV (As := [.ref a0, .ref a1, .ref b4]) (rest := []) (wr := [(h0, .inr (11, [.ref a0, .ref a1, .ref a2, .ref a3, .ref a4, .ref a5, .ref a6, .ref a7, .ref a8, .ref a9, .ref a10, .int 0, .int 0, .int 0, .int 0])), (a3, .inr (3, [.ref ow, .ref oe, .ref ot, .ref ov, .int 0]))]) (Cn := RX1) C (c_run l g a2 et el en em ek a0 b2 b4 a1 no nv nb ns) 3 gX11_tick_X1_run rfl (by decide +kernel) ⟨(Nat.le_of_ble_eq_true rfl), (Nat.le_of_ble_eq_true rfl)⟩ [1, 2, 3, 6, 4] [0, 5] hP hD hA hS rfl rfl rfl rfl (by decide) (k := 1) (ci := 1) rfl rfl rfl rfl hl.1 rfl (Nat.le_of_ble_eq_true rfl) dX11_tick_69 ⟨(Nat.le_of_ble_eq_true rfl), (Nat.le_of_ble_eq_true rfl)⟩ (fun _u H locs hw hP hD hS => ?_)
      have hP : va_P g.1 vwCl [(h0, .inr (11, [.ref a0, .ref a1, .ref a2, .ref a3, .ref a4, .ref a5, .ref a6, .ref a7, .ref a8, .ref a9, .ref a10, .int 0, .int 0, .int 0, .int 0])), (a3, .inr (3, [.ref ow, .ref oe, .ref ot, .ref ov, .int 0])), (a2, .inr (1, [.ref et, .ref el, .int 0, .ref en, .ref em, .ref ek, .int 0, .int 0, .int 0, .int 0, .long 0, .long 0, .long 0])), (et, .inl (g.2 0, 6, .inl z0)), (a0, .inr (4, [.int 0, .int 100, .ref b2, .int 0, .ref b4])), (a1, .inr (7, [.ref no, .ref nv, .ref nb, .ref ns, .int 0])), (ns, .inr (8, [.int 0, .int 0, .int 1, .int 0]))] H := hP
      have hD : va_D A [(h0, .inr (11, [.ref a0, .ref a1, .ref a2, .ref a3, .ref a4, .ref a5, .ref a6, .ref a7, .ref a8, .ref a9, .ref a10, .int 0, .int 0, .int 0, .int 0])), (a3, .inr (3, [.ref ow, .ref oe, .ref ot, .ref ov, .int 0])), (a2, .inr (1, [.ref et, .ref el, .int 0, .ref en, .ref em, .ref ek, .int 0, .int 0, .int 0, .int 0, .long 0, .long 0, .long 0])), (et, .inl (g.2 0, 6, .inl z0)), (a0, .inr (4, [.int 0, .int 100, .ref b2, .int 0, .ref b4])), (a1, .inr (7, [.ref no, .ref nv, .ref nb, .ref ns, .int 0])), (ns, .inr (8, [.int 0, .int 0, .int 1, .int 0]))] := hD
      refine lv_iinc (v := (ix + 1)) (lv' := [(2, .int (ix + 1)), (0, .ref h0), (1, .int x1)]) hx hb dX11_tick_72 hl (k := 0) rfl rfl (by decide) rfl (fun ls hl => ?_)
      refine lv_goto (tgt := 30) hx hb dX11_tick_75 (by decide) ?_
      have hx1 := inc_toInt c3
      exact ih (ix + 1) ls H locs ⟨(by omega), (by exact inc_le c3), lv_sub hl [0, 1, 2] rfl, hP.pick [0, 1, 2, 3, 4, 5, 6] rfl, hS⟩ (by exact inc_mu c3 hib)
    refine lv_bipush (v := -3) hx hb dX11_tick_25 (by decide) ?_
    exact retI C hS () (by unfold r_x_tick; rw [if_neg c1, if_neg c2]) (hP.pick [] rfl) (hD.sub [] rfl rfl) (Nat.le_of_ble_eq_true rfl) (Nat.le_of_ble_eq_true rfl) dX11_tick_27
  refine lv_bipush (v := -2) hx hb dX11_tick_11 (by decide) ?_
  exact retI C hS () (by unfold r_x_tick; rw [if_pos c1]) (hP.pick [] rfl) (hD.sub [] rfl rfl) (Nat.le_of_ble_eq_true rfl) (Nat.le_of_ble_eq_true rfl) dX11_tick_13
