theorem hi_X4_init_X4 : ∀ w ∈ wsX40, w ∈ wsX4_init := fun w h => List.mem_cons_of_mem _ (List.mem_append_right _ h)
theorem oi_X4_init : Cond.code objectInit ⟨#[0xb1]⟩ 1 none ∈ wsX4_init := by decide +kernel
set_option maxRecDepth 100000 in
set_option maxHeartbeats 4000000 in
theorem c_X4_init (l : Launch) (g : Gt) (h0 : Nat)  : Ctr l g yX4_init wsX4_init ({ frames := 1, cells := 2, slots := 12, locals := 12 } : Room) [.ref h0] [(h0, .inr (4, [.int 0, .int 0, .null, .int 0, .null]))] (fun A => QV g A (fun _ : Nat → Nat => True) (fun u => [(h0, .inr (4, [.int 0, .int 100, .ref (u 0), .int 0, .ref (u 1)])), ((u 0), .inl (g.2 3, 6, .inr (.inr (.inr (.inr (fun _ => none)))))), ((u 1), .inl (g.2 0, 6, .inl z0))])) := by
  refine Ctr.of (cc := cX4_init) (maxL := 1) (ret := none) (by decide) rfl (Nat.le_of_ble_eq_true rfl) ?_
  intro p e s m below meth c A ls H C hP hD hA hS hl
  obtain ⟨hx, hb, hr, hts, hown, hlocks, hml, hin, hKN⟩ := id C
  have hK := hKN.1
  have hN := hKN.2
  have F : CallFix p m c cX4_init 1 s _ wsX4_init yX4_init.cls := ⟨hx, hb, hml, hown, hts⟩
  have hin : meth.name = "<init>" := hin rfl
  have hl : lv_has ls 1 [(0, .ref h0)] := hl
  refine lv_aload_n hx hb dX4_init_0 rfl (lv_at hl 0 rfl) ?_
  refine W.objInit hx hb hown (hts (.methodLink RX4 3 objectInit) (by decide +kernel)) (hts (.instanceMethod objectInit) (by decide +kernel)) (hts (.code objectInit ⟨#[0xb1]⟩ 1 none) (oi_X4_init)) rfl (by rw [hml]; exact hl.1) rfl dX4_init_1 (Nat.le_of_ble_eq_true rfl) (Nat.le_of_ble_eq_true rfl) ?_
  refine W.eq (g2 := F0 m 4 ls []) rfl ?_
  refine lv_aload_n hx hb dX4_init_4 rfl (lv_at hl 0 rfl) ?_
  refine lv_bipush (v := 100) hx hb dX4_init_5 (by decide) ?_
  refine va_put (D := g.1) (ci := 4) (v := .int 100) (ty := .int) (C := RX4) (T := TX4) (N := 5) hx hb hts hi_X4_init_X4 tyX4 tyX4_ok nmX4 hown hK hP hD hS 0 rfl rfl 1 (by decide) (hts (.fieldLink RX4 9 "OilPush$Plant" "limit" "I") (by decide +kernel)) (fun _ h => h) rfl (by decide +kernel) rfl rfl (Nat.le_of_ble_eq_true rfl) dX4_init_7 (fun H locs hP hD hS => ?_)
  have hP : va_P g.1 vwCl [(h0, .inr (4, [.int 0, .int 100, .null, .int 0, .null]))] H := hP
  have hD : va_D A [(h0, .inr (4, [.int 0, .int 100, .null, .int 0, .null]))] := hD
  refine lv_aload_n hx hb dX4_init_10 rfl (lv_at hl 0 rfl) ?_
  refine lv_bipush (v := 6) hx hb dX4_init_11 (by decide) ?_
  refine newQ (Cn := RX0) 3 rfl C (by decide +kernel) hN.2.1 hP hD hS hA (by decide) (N' := 6) (by decide) (by decide) (Nat.le_of_ble_eq_true rfl) (Nat.le_of_ble_eq_true rfl) dX4_init_13 (fun q1 H hP hD hS => ?_)
  refine W.widen (k := 1) (n := 6) (Nat.le_of_ble_eq_true rfl) (Nat.le_of_ble_eq_true rfl) ?_
  have hP : va_P g.1 vwCl [(h0, .inr (4, [.int 0, .int 100, .null, .int 0, .null])), (q1, .inl (g.2 3, 6, .inr (.inr (.inr (.inr (fun _ => none))))))] H := hP
  have hD : va_D A [(h0, .inr (4, [.int 0, .int 100, .null, .int 0, .null])), (q1, .inl (g.2 3, 6, .inr (.inr (.inr (.inr (fun _ => none))))))] := hD
  refine va_putF (D := g.1) (ci := 4) (v := .ref q1) (ty := .array (.object "OilPush$Cylinder")) (C := RX4) (T := TX4) (N := 5) hx hb hts hi_X4_init_X4 tyX4 tyX4_ok nmX4 hown hK hP hD hS 0 rfl rfl 2 (by decide) (hts (.fieldLink RX4 17 "OilPush$Plant" "cylinders" "[LOilPush$Cylinder;") (by decide +kernel)) (fun _ h => h) rfl hin rfl (by decide +kernel) rfl rfl (Nat.le_of_ble_eq_true rfl) dX4_init_16 (fun H locs hP hD hS => ?_)
  have hP : va_P g.1 vwCl [(h0, .inr (4, [.int 0, .int 100, .ref q1, .int 0, .null])), (q1, .inl (g.2 3, 6, .inr (.inr (.inr (.inr (fun _ => none))))))] H := hP
  have hD : va_D A [(h0, .inr (4, [.int 0, .int 100, .ref q1, .int 0, .null])), (q1, .inl (g.2 3, 6, .inr (.inr (.inr (.inr (fun _ => none))))))] := hD
  refine lv_aload_n hx hb dX4_init_19 rfl (lv_at hl 0 rfl) ?_
  refine lv_bipush (v := 6) hx hb dX4_init_20 (by decide) ?_
  refine newG (ty := .int) (a0 := (6, .inl z0)) 0 rfl (fun _ h => h) C (by decide +kernel) rfl hP hD hS hA (fun _ => rfl) (by decide) (N' := 6) (by decide) (by decide) (Nat.le_of_ble_eq_true rfl) (Nat.le_of_ble_eq_true rfl) dX4_init_22 (fun q2 H hP hD hS => ?_)
  refine W.widen (k := 2) (n := 12) (Nat.le_of_ble_eq_true rfl) (Nat.le_of_ble_eq_true rfl) ?_
  have hP : va_P g.1 vwCl [(h0, .inr (4, [.int 0, .int 100, .ref q1, .int 0, .null])), (q1, .inl (g.2 3, 6, .inr (.inr (.inr (.inr (fun _ => none)))))), (q2, .inl (g.2 0, 6, .inl z0))] H := hP
  have hD : va_D A [(h0, .inr (4, [.int 0, .int 100, .ref q1, .int 0, .null])), (q1, .inl (g.2 3, 6, .inr (.inr (.inr (.inr (fun _ => none)))))), (q2, .inl (g.2 0, 6, .inl z0))] := hD
  refine va_putF (D := g.1) (ci := 4) (v := .ref q2) (ty := .array .int) (C := RX4) (T := TX4) (N := 5) hx hb hts hi_X4_init_X4 tyX4 tyX4_ok nmX4 hown hK hP hD hS 0 rfl rfl 4 (by decide) (hts (.fieldLink RX4 21 "OilPush$Plant" "leaks" "[I") (by decide +kernel)) (fun _ h => h) rfl hin rfl (by decide +kernel) rfl rfl (Nat.le_of_ble_eq_true rfl) dX4_init_24 (fun H locs hP hD hS => ?_)
  have hP : va_P g.1 vwCl [(h0, .inr (4, [.int 0, .int 100, .ref q1, .int 0, .ref q2])), (q1, .inl (g.2 3, 6, .inr (.inr (.inr (.inr (fun _ => none)))))), (q2, .inl (g.2 0, 6, .inl z0))] H := hP
  have hD : va_D A [(h0, .inr (4, [.int 0, .int 100, .ref q1, .int 0, .ref q2])), (q1, .inl (g.2 3, 6, .inr (.inr (.inr (.inr (fun _ => none)))))), (q2, .inl (g.2 0, 6, .inl z0))] := hD
  exact retV C hS (fun k => ([q1, q2] : List Nat).getD k 0) trivial (hP.pick [0, 1, 2] rfl) (hD.sub [0, 1, 2] rfl rfl) (Nat.le_of_ble_eq_true rfl) (Nat.le_of_ble_eq_true rfl) dX4_init_27
theorem hi_X8_init_X8 : ∀ w ∈ wsX80, w ∈ wsX8_init := fun w h => List.mem_cons_of_mem _ (List.mem_append_right _ h)
theorem oi_X8_init : Cond.code objectInit ⟨#[0xb1]⟩ 1 none ∈ wsX8_init := by decide +kernel
set_option maxRecDepth 100000 in
set_option maxHeartbeats 4000000 in
theorem c_X8_init (l : Launch) (g : Gt) (h0 : Nat)  : Ctr l g yX8_init wsX8_init ({ frames := 1, cells := 0, slots := 0, locals := 12 } : Room) [.ref h0] [(h0, .inr (8, [.int 0, .int 0, .int 0, .int 0]))] (fun A => QV g A (fun _ : Nat → Nat => True) (fun u => [(h0, .inr (8, [.int 0, .int 0, .int 1, .int 0]))])) := by
  refine Ctr.of (cc := cX8_init) (maxL := 1) (ret := none) (by decide) rfl (Nat.le_of_ble_eq_true rfl) ?_
  intro p e s m below meth c A ls H C hP hD hA hS hl
  obtain ⟨hx, hb, hr, hts, hown, hlocks, hml, hin, hKN⟩ := id C
  have hK := hKN.1
  have hN := hKN.2
  have F : CallFix p m c cX8_init 1 s _ wsX8_init yX8_init.cls := ⟨hx, hb, hml, hown, hts⟩
  have hin : meth.name = "<init>" := hin rfl
  have hl : lv_has ls 1 [(0, .ref h0)] := hl
  refine lv_aload_n hx hb dX8_init_0 rfl (lv_at hl 0 rfl) ?_
  refine W.objInit hx hb hown (hts (.methodLink RX8 1 objectInit) (by decide +kernel)) (hts (.instanceMethod objectInit) (by decide +kernel)) (hts (.code objectInit ⟨#[0xb1]⟩ 1 none) (oi_X8_init)) rfl (by rw [hml]; exact hl.1) rfl dX8_init_1 (Nat.le_of_ble_eq_true rfl) (Nat.le_of_ble_eq_true rfl) ?_
  refine W.eq (g2 := F0 m 4 ls []) rfl ?_
  refine lv_aload_n hx hb dX8_init_4 rfl (lv_at hl 0 rfl) ?_
  refine lv_iconst (v := 1) hx hb dX8_init_5 (by decide) ?_
  refine va_put (D := g.1) (ci := 8) (v := .int 1) (ty := .int) (C := RX8) (T := TX8) (N := 4) hx hb hts hi_X8_init_X8 tyX8 tyX8_ok nmX8 hown hK hP hD hS 0 rfl rfl 2 (by decide) (hts (.fieldLink RX8 7 "OilPush$Store" "stiff" "I") (by decide +kernel)) (fun _ h => h) rfl (by decide +kernel) rfl rfl (Nat.le_of_ble_eq_true rfl) dX8_init_6 (fun H locs hP hD hS => ?_)
  have hP : va_P g.1 vwCl [(h0, .inr (8, [.int 0, .int 0, .int 1, .int 0]))] H := hP
  have hD : va_D A [(h0, .inr (8, [.int 0, .int 0, .int 1, .int 0]))] := hD
  exact retV C hS (fun k => ([] : List Nat).getD k 0) trivial (hP.pick [0] rfl) (hD.sub [0] rfl rfl) (Nat.le_of_ble_eq_true rfl) (Nat.le_of_ble_eq_true rfl) dX8_init_9
theorem hi_X7_init_X7 : ∀ w ∈ wsX70, w ∈ wsX7_init := fun w h => List.mem_cons_of_mem _ (List.mem_append_left _ (List.mem_append_right _ h))
theorem hi_X7_init_X8 : ∀ w ∈ wsX80, w ∈ wsX7_init := fun w h => List.mem_cons_of_mem _ (List.mem_append_right _ h)
theorem oi_X7_init : Cond.code objectInit ⟨#[0xb1]⟩ 1 none ∈ wsX7_init := by decide +kernel
set_option maxRecDepth 100000 in
set_option maxHeartbeats 4000000 in
theorem c_X7_init (l : Launch) (g : Gt) (h0 : Nat)  : Ctr l g yX7_init wsX7_init ({ frames := 2, cells := 4, slots := 22, locals := 32 } : Room) [.ref h0] [(h0, .inr (7, [.null, .null, .null, .null, .int 0]))] (fun A => QV g A (fun _ : Nat → Nat => True) (fun u => [(h0, .inr (7, [.ref (u 0), .ref (u 1), .ref (u 2), .ref (u 3), .int 0])), ((u 0), .inl (g.2 0, 6, .inl z0)), ((u 1), .inl (g.2 0, 6, .inl z0)), ((u 2), .inl (g.2 0, 6, .inl z0)), ((u 3), .inr (8, [.int 0, .int 0, .int 1, .int 0]))])) := by
  refine Ctr.of (cc := cX7_init) (maxL := 1) (ret := none) (by decide) rfl (Nat.le_of_ble_eq_true rfl) ?_
  intro p e s m below meth c A ls H C hP hD hA hS hl
  obtain ⟨hx, hb, hr, hts, hown, hlocks, hml, hin, hKN⟩ := id C
  have hK := hKN.1
  have hN := hKN.2
  have F : CallFix p m c cX7_init 1 s _ wsX7_init yX7_init.cls := ⟨hx, hb, hml, hown, hts⟩
  have hin : meth.name = "<init>" := hin rfl
  have hl : lv_has ls 1 [(0, .ref h0)] := hl
  refine lv_aload_n hx hb dX7_init_0 rfl (lv_at hl 0 rfl) ?_
  refine W.objInit hx hb hown (hts (.methodLink RX7 3 objectInit) (by decide +kernel)) (hts (.instanceMethod objectInit) (by decide +kernel)) (hts (.code objectInit ⟨#[0xb1]⟩ 1 none) (oi_X7_init)) rfl (by rw [hml]; exact hl.1) rfl dX7_init_1 (Nat.le_of_ble_eq_true rfl) (Nat.le_of_ble_eq_true rfl) ?_
  refine W.eq (g2 := F0 m 4 ls []) rfl ?_
  refine lv_aload_n hx hb dX7_init_4 rfl (lv_at hl 0 rfl) ?_
  refine lv_bipush (v := 6) hx hb dX7_init_5 (by decide) ?_
  refine newG (ty := .int) (a0 := (6, .inl z0)) 0 rfl (fun _ h => h) C (by decide +kernel) rfl hP hD hS hA (fun _ => rfl) (by decide) (N' := 6) (by decide) (by decide) (Nat.le_of_ble_eq_true rfl) (Nat.le_of_ble_eq_true rfl) dX7_init_7 (fun q1 H hP hD hS => ?_)
  refine W.widen (k := 1) (n := 6) (Nat.le_of_ble_eq_true rfl) (Nat.le_of_ble_eq_true rfl) ?_
  have hP : va_P g.1 vwCl [(h0, .inr (7, [.null, .null, .null, .null, .int 0])), (q1, .inl (g.2 0, 6, .inl z0))] H := hP
  have hD : va_D A [(h0, .inr (7, [.null, .null, .null, .null, .int 0])), (q1, .inl (g.2 0, 6, .inl z0))] := hD
  refine va_putF (D := g.1) (ci := 7) (v := .ref q1) (ty := .array .int) (C := RX7) (T := TX7) (N := 5) hx hb hts hi_X7_init_X7 tyX7 tyX7_ok nmX7 hown hK hP hD hS 0 rfl rfl 0 (by decide) (hts (.fieldLink RX7 9 "OilPush$State" "oil" "[I") (by decide +kernel)) (fun _ h => h) rfl hin rfl (by decide +kernel) rfl rfl (Nat.le_of_ble_eq_true rfl) dX7_init_9 (fun H locs hP hD hS => ?_)
  have hP : va_P g.1 vwCl [(h0, .inr (7, [.ref q1, .null, .null, .null, .int 0])), (q1, .inl (g.2 0, 6, .inl z0))] H := hP
  have hD : va_D A [(h0, .inr (7, [.ref q1, .null, .null, .null, .int 0])), (q1, .inl (g.2 0, 6, .inl z0))] := hD
  refine lv_aload_n hx hb dX7_init_12 rfl (lv_at hl 0 rfl) ?_
  refine lv_bipush (v := 6) hx hb dX7_init_13 (by decide) ?_
  refine newG (ty := .int) (a0 := (6, .inl z0)) 0 rfl (fun _ h => h) C (by decide +kernel) rfl hP hD hS hA (fun _ => rfl) (by decide) (N' := 6) (by decide) (by decide) (Nat.le_of_ble_eq_true rfl) (Nat.le_of_ble_eq_true rfl) dX7_init_15 (fun q2 H hP hD hS => ?_)
  refine W.widen (k := 2) (n := 12) (Nat.le_of_ble_eq_true rfl) (Nat.le_of_ble_eq_true rfl) ?_
  have hP : va_P g.1 vwCl [(h0, .inr (7, [.ref q1, .null, .null, .null, .int 0])), (q1, .inl (g.2 0, 6, .inl z0)), (q2, .inl (g.2 0, 6, .inl z0))] H := hP
  have hD : va_D A [(h0, .inr (7, [.ref q1, .null, .null, .null, .int 0])), (q1, .inl (g.2 0, 6, .inl z0)), (q2, .inl (g.2 0, 6, .inl z0))] := hD
  refine va_putF (D := g.1) (ci := 7) (v := .ref q2) (ty := .array .int) (C := RX7) (T := TX7) (N := 5) hx hb hts hi_X7_init_X7 tyX7 tyX7_ok nmX7 hown hK hP hD hS 0 rfl rfl 1 (by decide) (hts (.fieldLink RX7 15 "OilPush$State" "valve" "[I") (by decide +kernel)) (fun _ h => h) rfl hin rfl (by decide +kernel) rfl rfl (Nat.le_of_ble_eq_true rfl) dX7_init_17 (fun H locs hP hD hS => ?_)
  have hP : va_P g.1 vwCl [(h0, .inr (7, [.ref q1, .ref q2, .null, .null, .int 0])), (q1, .inl (g.2 0, 6, .inl z0)), (q2, .inl (g.2 0, 6, .inl z0))] H := hP
  have hD : va_D A [(h0, .inr (7, [.ref q1, .ref q2, .null, .null, .int 0])), (q1, .inl (g.2 0, 6, .inl z0)), (q2, .inl (g.2 0, 6, .inl z0))] := hD
  refine lv_aload_n hx hb dX7_init_20 rfl (lv_at hl 0 rfl) ?_
  refine lv_bipush (v := 6) hx hb dX7_init_21 (by decide) ?_
  refine newG (ty := .int) (a0 := (6, .inl z0)) 0 rfl (fun _ h => h) C (by decide +kernel) rfl hP hD hS hA (fun _ => rfl) (by decide) (N' := 6) (by decide) (by decide) (Nat.le_of_ble_eq_true rfl) (Nat.le_of_ble_eq_true rfl) dX7_init_23 (fun q3 H hP hD hS => ?_)
  refine W.widen (k := 3) (n := 18) (Nat.le_of_ble_eq_true rfl) (Nat.le_of_ble_eq_true rfl) ?_
  have hP : va_P g.1 vwCl [(h0, .inr (7, [.ref q1, .ref q2, .null, .null, .int 0])), (q1, .inl (g.2 0, 6, .inl z0)), (q2, .inl (g.2 0, 6, .inl z0)), (q3, .inl (g.2 0, 6, .inl z0))] H := hP
  have hD : va_D A [(h0, .inr (7, [.ref q1, .ref q2, .null, .null, .int 0])), (q1, .inl (g.2 0, 6, .inl z0)), (q2, .inl (g.2 0, 6, .inl z0)), (q3, .inl (g.2 0, 6, .inl z0))] := hD
  refine va_putF (D := g.1) (ci := 7) (v := .ref q3) (ty := .array .int) (C := RX7) (T := TX7) (N := 5) hx hb hts hi_X7_init_X7 tyX7 tyX7_ok nmX7 hown hK hP hD hS 0 rfl rfl 2 (by decide) (hts (.fieldLink RX7 18 "OilPush$State" "burst" "[I") (by decide +kernel)) (fun _ h => h) rfl hin rfl (by decide +kernel) rfl rfl (Nat.le_of_ble_eq_true rfl) dX7_init_25 (fun H locs hP hD hS => ?_)
  have hP : va_P g.1 vwCl [(h0, .inr (7, [.ref q1, .ref q2, .ref q3, .null, .int 0])), (q1, .inl (g.2 0, 6, .inl z0)), (q2, .inl (g.2 0, 6, .inl z0)), (q3, .inl (g.2 0, 6, .inl z0))] H := hP
  have hD : va_D A [(h0, .inr (7, [.ref q1, .ref q2, .ref q3, .null, .int 0])), (q1, .inl (g.2 0, 6, .inl z0)), (q2, .inl (g.2 0, 6, .inl z0)), (q3, .inl (g.2 0, 6, .inl z0))] := hD
  refine lv_aload_n hx hb dX7_init_28 rfl (lv_at hl 0 rfl) ?_
  refine va_new (ci := 8) (fs := [.int 0, .int 0, .int 0, .int 0]) (C := RX8) (T := TX8) (N := 4) hx hb hts hi_X7_init_X8 tyX8 tyX8_ok hown (hts (.classLink RX7 21 RX8) (by decide +kernel)) (hts (.instantiable RX8 4) (by decide +kernel)) (hts (.initialized RX8) (by decide +kernel)) hK hP hD hS hA rfl (nwX8) (Nat.le_of_ble_eq_true rfl) (Nat.le_of_ble_eq_true rfl) dX7_init_29 (fun q4 H hP hD hS => ?_)
  refine W.widen (k := 4) (n := 22) (Nat.le_of_ble_eq_true rfl) (Nat.le_of_ble_eq_true rfl) ?_
  have hP : va_P g.1 vwCl [(h0, .inr (7, [.ref q1, .ref q2, .ref q3, .null, .int 0])), (q1, .inl (g.2 0, 6, .inl z0)), (q2, .inl (g.2 0, 6, .inl z0)), (q3, .inl (g.2 0, 6, .inl z0)), (q4, .inr (8, [.int 0, .int 0, .int 0, .int 0]))] H := hP
  have hD : va_D A [(h0, .inr (7, [.ref q1, .ref q2, .ref q3, .null, .int 0])), (q1, .inl (g.2 0, 6, .inl z0)), (q2, .inl (g.2 0, 6, .inl z0)), (q3, .inl (g.2 0, 6, .inl z0)), (q4, .inr (8, [.int 0, .int 0, .int 0, .int 0]))] := hD
  refine lv_dup hx hb dX7_init_32 rfl ?_
  refine callVIN (host := "OilPush") (As := []) (rest := [.ref q4, .ref h0]) (wr := [(h0, .inr (7, [.ref q1, .ref q2, .ref q3, .null, .int 0])), (q1, .inl (g.2 0, 6, .inl z0)), (q2, .inl (g.2 0, 6, .inl z0)), (q3, .inl (g.2 0, 6, .inl z0))]) C (c_X8_init l g q4) 0 gX7_init_X8_init_n23 rfl (nst_2 hN) (by decide +kernel) (by decide +kernel) rfl (by decide +kernel) ⟨(Nat.le_of_ble_eq_true rfl), (Nat.le_of_ble_eq_true rfl)⟩ [4] [0, 1, 2, 3] hP hD hA hS rfl rfl rfl rfl (by decide) rfl hl.1 rfl (Nat.le_of_ble_eq_true rfl) dX7_init_33 ⟨(Nat.le_of_ble_eq_true rfl), (Nat.le_of_ble_eq_true rfl)⟩ (fun u5 H locs hw hP hD hS => ?_)
  have hP : va_P g.1 vwCl [(h0, .inr (7, [.ref q1, .ref q2, .ref q3, .null, .int 0])), (q1, .inl (g.2 0, 6, .inl z0)), (q2, .inl (g.2 0, 6, .inl z0)), (q3, .inl (g.2 0, 6, .inl z0)), (q4, .inr (8, [.int 0, .int 0, .int 1, .int 0]))] H := hP
  have hD : va_D A [(h0, .inr (7, [.ref q1, .ref q2, .ref q3, .null, .int 0])), (q1, .inl (g.2 0, 6, .inl z0)), (q2, .inl (g.2 0, 6, .inl z0)), (q3, .inl (g.2 0, 6, .inl z0)), (q4, .inr (8, [.int 0, .int 0, .int 1, .int 0]))] := hD
  refine va_putF (D := g.1) (ci := 7) (v := .ref q4) (ty := .object "OilPush$Store") (C := RX7) (T := TX7) (N := 5) hx hb hts hi_X7_init_X7 tyX7 tyX7_ok nmX7 hown hK hP hD hS 0 rfl rfl 3 (by decide) (hts (.fieldLink RX7 24 "OilPush$State" "store" "LOilPush$Store;") (by decide +kernel)) (fun _ h => h) rfl hin rfl (by decide +kernel) rfl rfl (Nat.le_of_ble_eq_true rfl) dX7_init_36 (fun H locs hP hD hS => ?_)
  have hP : va_P g.1 vwCl [(h0, .inr (7, [.ref q1, .ref q2, .ref q3, .ref q4, .int 0])), (q1, .inl (g.2 0, 6, .inl z0)), (q2, .inl (g.2 0, 6, .inl z0)), (q3, .inl (g.2 0, 6, .inl z0)), (q4, .inr (8, [.int 0, .int 0, .int 1, .int 0]))] H := hP
  have hD : va_D A [(h0, .inr (7, [.ref q1, .ref q2, .ref q3, .ref q4, .int 0])), (q1, .inl (g.2 0, 6, .inl z0)), (q2, .inl (g.2 0, 6, .inl z0)), (q3, .inl (g.2 0, 6, .inl z0)), (q4, .inr (8, [.int 0, .int 0, .int 1, .int 0]))] := hD
  exact retV C hS (fun k => ([q1, q2, q3, q4] : List Nat).getD k 0) trivial (hP.pick [0, 1, 2, 3, 4] rfl) (hD.sub [0, 1, 2, 3, 4] rfl rfl) (Nat.le_of_ble_eq_true rfl) (Nat.le_of_ble_eq_true rfl) dX7_init_39
theorem hi_X1_init_X1 : ∀ w ∈ wsX10, w ∈ wsX1_init := fun w h => List.mem_cons_of_mem _ (List.mem_append_right _ h)
theorem oi_X1_init : Cond.code objectInit ⟨#[0xb1]⟩ 1 none ∈ wsX1_init := by decide +kernel
set_option maxRecDepth 100000 in
set_option maxHeartbeats 4000000 in
theorem c_X1_init (l : Launch) (g : Gt) (h0 : Nat)  : Ctr l g yX1_init wsX1_init ({ frames := 1, cells := 5, slots := 30, locals := 12 } : Room) [.ref h0] [(h0, .inr (1, [.null, .null, .int 0, .null, .null, .null, .int 0, .int 0, .int 0, .int 0, .long 0, .long 0, .long 0]))] (fun A => QV g A (fun _ : Nat → Nat => True) (fun u => [(h0, .inr (1, [.ref (u 0), .ref (u 1), .int 0, .ref (u 2), .ref (u 3), .ref (u 4), .int 0, .int 0, .int 0, .int 0, .long 0, .long 0, .long 0])), ((u 0), .inl (g.2 0, 6, .inl z0)), ((u 1), .inl (g.2 0, 6, .inl z0)), ((u 2), .inl (g.2 0, 6, .inl z0)), ((u 3), .inl (g.2 0, 6, .inl z0)), ((u 4), .inl (g.2 0, 6, .inl z0))])) := by
  refine Ctr.of (cc := cX1_init) (maxL := 1) (ret := none) (by decide) rfl (Nat.le_of_ble_eq_true rfl) ?_
  intro p e s m below meth c A ls H C hP hD hA hS hl
  obtain ⟨hx, hb, hr, hts, hown, hlocks, hml, hin, hKN⟩ := id C
  have hK := hKN.1
  have hN := hKN.2
  have F : CallFix p m c cX1_init 1 s _ wsX1_init yX1_init.cls := ⟨hx, hb, hml, hown, hts⟩
  have hin : meth.name = "<init>" := hin rfl
  have hl : lv_has ls 1 [(0, .ref h0)] := hl
  refine lv_aload_n hx hb dX1_init_0 rfl (lv_at hl 0 rfl) ?_
  refine W.objInit hx hb hown (hts (.methodLink RX1 3 objectInit) (by decide +kernel)) (hts (.instanceMethod objectInit) (by decide +kernel)) (hts (.code objectInit ⟨#[0xb1]⟩ 1 none) (oi_X1_init)) rfl (by rw [hml]; exact hl.1) rfl dX1_init_1 (Nat.le_of_ble_eq_true rfl) (Nat.le_of_ble_eq_true rfl) ?_
  refine W.eq (g2 := F0 m 4 ls []) rfl ?_
  refine lv_aload_n hx hb dX1_init_4 rfl (lv_at hl 0 rfl) ?_
  refine lv_bipush (v := 6) hx hb dX1_init_5 (by decide) ?_
  refine newG (ty := .int) (a0 := (6, .inl z0)) 0 rfl (fun _ h => h) C (by decide +kernel) rfl hP hD hS hA (fun _ => rfl) (by decide) (N' := 6) (by decide) (by decide) (Nat.le_of_ble_eq_true rfl) (Nat.le_of_ble_eq_true rfl) dX1_init_7 (fun q1 H hP hD hS => ?_)
  refine W.widen (k := 1) (n := 6) (Nat.le_of_ble_eq_true rfl) (Nat.le_of_ble_eq_true rfl) ?_
  have hP : va_P g.1 vwCl [(h0, .inr (1, [.null, .null, .int 0, .null, .null, .null, .int 0, .int 0, .int 0, .int 0, .long 0, .long 0, .long 0])), (q1, .inl (g.2 0, 6, .inl z0))] H := hP
  have hD : va_D A [(h0, .inr (1, [.null, .null, .int 0, .null, .null, .null, .int 0, .int 0, .int 0, .int 0, .long 0, .long 0, .long 0])), (q1, .inl (g.2 0, 6, .inl z0))] := hD
  refine va_putF (D := g.1) (ci := 1) (v := .ref q1) (ty := .array .int) (C := RX1) (T := TX1) (N := 13) hx hb hts hi_X1_init_X1 tyX1 tyX1_ok nmX1 hown hK hP hD hS 0 rfl rfl 0 (by decide) (hts (.fieldLink RX1 9 "OilPush$Engine" "took" "[I") (by decide +kernel)) (fun _ h => h) rfl hin rfl (by decide +kernel) rfl rfl (Nat.le_of_ble_eq_true rfl) dX1_init_9 (fun H locs hP hD hS => ?_)
  have hP : va_P g.1 vwCl [(h0, .inr (1, [.ref q1, .null, .int 0, .null, .null, .null, .int 0, .int 0, .int 0, .int 0, .long 0, .long 0, .long 0])), (q1, .inl (g.2 0, 6, .inl z0))] H := hP
  have hD : va_D A [(h0, .inr (1, [.ref q1, .null, .int 0, .null, .null, .null, .int 0, .int 0, .int 0, .int 0, .long 0, .long 0, .long 0])), (q1, .inl (g.2 0, 6, .inl z0))] := hD
  refine lv_aload_n hx hb dX1_init_12 rfl (lv_at hl 0 rfl) ?_
  refine lv_bipush (v := 6) hx hb dX1_init_13 (by decide) ?_
  refine newG (ty := .int) (a0 := (6, .inl z0)) 0 rfl (fun _ h => h) C (by decide +kernel) rfl hP hD hS hA (fun _ => rfl) (by decide) (N' := 6) (by decide) (by decide) (Nat.le_of_ble_eq_true rfl) (Nat.le_of_ble_eq_true rfl) dX1_init_15 (fun q2 H hP hD hS => ?_)
  refine W.widen (k := 2) (n := 12) (Nat.le_of_ble_eq_true rfl) (Nat.le_of_ble_eq_true rfl) ?_
  have hP : va_P g.1 vwCl [(h0, .inr (1, [.ref q1, .null, .int 0, .null, .null, .null, .int 0, .int 0, .int 0, .int 0, .long 0, .long 0, .long 0])), (q1, .inl (g.2 0, 6, .inl z0)), (q2, .inl (g.2 0, 6, .inl z0))] H := hP
  have hD : va_D A [(h0, .inr (1, [.ref q1, .null, .int 0, .null, .null, .null, .int 0, .int 0, .int 0, .int 0, .long 0, .long 0, .long 0])), (q1, .inl (g.2 0, 6, .inl z0)), (q2, .inl (g.2 0, 6, .inl z0))] := hD
  refine va_putF (D := g.1) (ci := 1) (v := .ref q2) (ty := .array .int) (C := RX1) (T := TX1) (N := 13) hx hb hts hi_X1_init_X1 tyX1 tyX1_ok nmX1 hown hK hP hD hS 0 rfl rfl 1 (by decide) (hts (.fieldLink RX1 15 "OilPush$Engine" "line" "[I") (by decide +kernel)) (fun _ h => h) rfl hin rfl (by decide +kernel) rfl rfl (Nat.le_of_ble_eq_true rfl) dX1_init_17 (fun H locs hP hD hS => ?_)
  have hP : va_P g.1 vwCl [(h0, .inr (1, [.ref q1, .ref q2, .int 0, .null, .null, .null, .int 0, .int 0, .int 0, .int 0, .long 0, .long 0, .long 0])), (q1, .inl (g.2 0, 6, .inl z0)), (q2, .inl (g.2 0, 6, .inl z0))] H := hP
  have hD : va_D A [(h0, .inr (1, [.ref q1, .ref q2, .int 0, .null, .null, .null, .int 0, .int 0, .int 0, .int 0, .long 0, .long 0, .long 0])), (q1, .inl (g.2 0, 6, .inl z0)), (q2, .inl (g.2 0, 6, .inl z0))] := hD
  refine lv_aload_n hx hb dX1_init_20 rfl (lv_at hl 0 rfl) ?_
  refine lv_bipush (v := 6) hx hb dX1_init_21 (by decide) ?_
  refine newG (ty := .int) (a0 := (6, .inl z0)) 0 rfl (fun _ h => h) C (by decide +kernel) rfl hP hD hS hA (fun _ => rfl) (by decide) (N' := 6) (by decide) (by decide) (Nat.le_of_ble_eq_true rfl) (Nat.le_of_ble_eq_true rfl) dX1_init_23 (fun q3 H hP hD hS => ?_)
  refine W.widen (k := 3) (n := 18) (Nat.le_of_ble_eq_true rfl) (Nat.le_of_ble_eq_true rfl) ?_
  have hP : va_P g.1 vwCl [(h0, .inr (1, [.ref q1, .ref q2, .int 0, .null, .null, .null, .int 0, .int 0, .int 0, .int 0, .long 0, .long 0, .long 0])), (q1, .inl (g.2 0, 6, .inl z0)), (q2, .inl (g.2 0, 6, .inl z0)), (q3, .inl (g.2 0, 6, .inl z0))] H := hP
  have hD : va_D A [(h0, .inr (1, [.ref q1, .ref q2, .int 0, .null, .null, .null, .int 0, .int 0, .int 0, .int 0, .long 0, .long 0, .long 0])), (q1, .inl (g.2 0, 6, .inl z0)), (q2, .inl (g.2 0, 6, .inl z0)), (q3, .inl (g.2 0, 6, .inl z0))] := hD
  refine va_putF (D := g.1) (ci := 1) (v := .ref q3) (ty := .array .int) (C := RX1) (T := TX1) (N := 13) hx hb hts hi_X1_init_X1 tyX1 tyX1_ok nmX1 hown hK hP hD hS 0 rfl rfl 3 (by decide) (hts (.fieldLink RX1 18 "OilPush$Engine" "need" "[I") (by decide +kernel)) (fun _ h => h) rfl hin rfl (by decide +kernel) rfl rfl (Nat.le_of_ble_eq_true rfl) dX1_init_25 (fun H locs hP hD hS => ?_)
  have hP : va_P g.1 vwCl [(h0, .inr (1, [.ref q1, .ref q2, .int 0, .ref q3, .null, .null, .int 0, .int 0, .int 0, .int 0, .long 0, .long 0, .long 0])), (q1, .inl (g.2 0, 6, .inl z0)), (q2, .inl (g.2 0, 6, .inl z0)), (q3, .inl (g.2 0, 6, .inl z0))] H := hP
  have hD : va_D A [(h0, .inr (1, [.ref q1, .ref q2, .int 0, .ref q3, .null, .null, .int 0, .int 0, .int 0, .int 0, .long 0, .long 0, .long 0])), (q1, .inl (g.2 0, 6, .inl z0)), (q2, .inl (g.2 0, 6, .inl z0)), (q3, .inl (g.2 0, 6, .inl z0))] := hD
  refine lv_aload_n hx hb dX1_init_28 rfl (lv_at hl 0 rfl) ?_
  refine lv_bipush (v := 6) hx hb dX1_init_29 (by decide) ?_
  refine newG (ty := .int) (a0 := (6, .inl z0)) 0 rfl (fun _ h => h) C (by decide +kernel) rfl hP hD hS hA (fun _ => rfl) (by decide) (N' := 6) (by decide) (by decide) (Nat.le_of_ble_eq_true rfl) (Nat.le_of_ble_eq_true rfl) dX1_init_31 (fun q4 H hP hD hS => ?_)
  refine W.widen (k := 4) (n := 24) (Nat.le_of_ble_eq_true rfl) (Nat.le_of_ble_eq_true rfl) ?_
  have hP : va_P g.1 vwCl [(h0, .inr (1, [.ref q1, .ref q2, .int 0, .ref q3, .null, .null, .int 0, .int 0, .int 0, .int 0, .long 0, .long 0, .long 0])), (q1, .inl (g.2 0, 6, .inl z0)), (q2, .inl (g.2 0, 6, .inl z0)), (q3, .inl (g.2 0, 6, .inl z0)), (q4, .inl (g.2 0, 6, .inl z0))] H := hP
  have hD : va_D A [(h0, .inr (1, [.ref q1, .ref q2, .int 0, .ref q3, .null, .null, .int 0, .int 0, .int 0, .int 0, .long 0, .long 0, .long 0])), (q1, .inl (g.2 0, 6, .inl z0)), (q2, .inl (g.2 0, 6, .inl z0)), (q3, .inl (g.2 0, 6, .inl z0)), (q4, .inl (g.2 0, 6, .inl z0))] := hD
  refine va_putF (D := g.1) (ci := 1) (v := .ref q4) (ty := .array .int) (C := RX1) (T := TX1) (N := 13) hx hb hts hi_X1_init_X1 tyX1 tyX1_ok nmX1 hown hK hP hD hS 0 rfl rfl 4 (by decide) (hts (.fieldLink RX1 21 "OilPush$Engine" "most" "[I") (by decide +kernel)) (fun _ h => h) rfl hin rfl (by decide +kernel) rfl rfl (Nat.le_of_ble_eq_true rfl) dX1_init_33 (fun H locs hP hD hS => ?_)
  have hP : va_P g.1 vwCl [(h0, .inr (1, [.ref q1, .ref q2, .int 0, .ref q3, .ref q4, .null, .int 0, .int 0, .int 0, .int 0, .long 0, .long 0, .long 0])), (q1, .inl (g.2 0, 6, .inl z0)), (q2, .inl (g.2 0, 6, .inl z0)), (q3, .inl (g.2 0, 6, .inl z0)), (q4, .inl (g.2 0, 6, .inl z0))] H := hP
  have hD : va_D A [(h0, .inr (1, [.ref q1, .ref q2, .int 0, .ref q3, .ref q4, .null, .int 0, .int 0, .int 0, .int 0, .long 0, .long 0, .long 0])), (q1, .inl (g.2 0, 6, .inl z0)), (q2, .inl (g.2 0, 6, .inl z0)), (q3, .inl (g.2 0, 6, .inl z0)), (q4, .inl (g.2 0, 6, .inl z0))] := hD
  refine lv_aload_n hx hb dX1_init_36 rfl (lv_at hl 0 rfl) ?_
  refine lv_bipush (v := 6) hx hb dX1_init_37 (by decide) ?_
  refine newG (ty := .int) (a0 := (6, .inl z0)) 0 rfl (fun _ h => h) C (by decide +kernel) rfl hP hD hS hA (fun _ => rfl) (by decide) (N' := 6) (by decide) (by decide) (Nat.le_of_ble_eq_true rfl) (Nat.le_of_ble_eq_true rfl) dX1_init_39 (fun q5 H hP hD hS => ?_)
  refine W.widen (k := 5) (n := 30) (Nat.le_of_ble_eq_true rfl) (Nat.le_of_ble_eq_true rfl) ?_
  have hP : va_P g.1 vwCl [(h0, .inr (1, [.ref q1, .ref q2, .int 0, .ref q3, .ref q4, .null, .int 0, .int 0, .int 0, .int 0, .long 0, .long 0, .long 0])), (q1, .inl (g.2 0, 6, .inl z0)), (q2, .inl (g.2 0, 6, .inl z0)), (q3, .inl (g.2 0, 6, .inl z0)), (q4, .inl (g.2 0, 6, .inl z0)), (q5, .inl (g.2 0, 6, .inl z0))] H := hP
  have hD : va_D A [(h0, .inr (1, [.ref q1, .ref q2, .int 0, .ref q3, .ref q4, .null, .int 0, .int 0, .int 0, .int 0, .long 0, .long 0, .long 0])), (q1, .inl (g.2 0, 6, .inl z0)), (q2, .inl (g.2 0, 6, .inl z0)), (q3, .inl (g.2 0, 6, .inl z0)), (q4, .inl (g.2 0, 6, .inl z0)), (q5, .inl (g.2 0, 6, .inl z0))] := hD
  refine va_putF (D := g.1) (ci := 1) (v := .ref q5) (ty := .array .int) (C := RX1) (T := TX1) (N := 13) hx hb hts hi_X1_init_X1 tyX1 tyX1_ok nmX1 hown hK hP hD hS 0 rfl rfl 5 (by decide) (hts (.fieldLink RX1 24 "OilPush$Engine" "taker" "[I") (by decide +kernel)) (fun _ h => h) rfl hin rfl (by decide +kernel) rfl rfl (Nat.le_of_ble_eq_true rfl) dX1_init_41 (fun H locs hP hD hS => ?_)
  have hP : va_P g.1 vwCl [(h0, .inr (1, [.ref q1, .ref q2, .int 0, .ref q3, .ref q4, .ref q5, .int 0, .int 0, .int 0, .int 0, .long 0, .long 0, .long 0])), (q1, .inl (g.2 0, 6, .inl z0)), (q2, .inl (g.2 0, 6, .inl z0)), (q3, .inl (g.2 0, 6, .inl z0)), (q4, .inl (g.2 0, 6, .inl z0)), (q5, .inl (g.2 0, 6, .inl z0))] H := hP
  have hD : va_D A [(h0, .inr (1, [.ref q1, .ref q2, .int 0, .ref q3, .ref q4, .ref q5, .int 0, .int 0, .int 0, .int 0, .long 0, .long 0, .long 0])), (q1, .inl (g.2 0, 6, .inl z0)), (q2, .inl (g.2 0, 6, .inl z0)), (q3, .inl (g.2 0, 6, .inl z0)), (q4, .inl (g.2 0, 6, .inl z0)), (q5, .inl (g.2 0, 6, .inl z0))] := hD
  exact retV C hS (fun k => ([q1, q2, q3, q4, q5] : List Nat).getD k 0) trivial (hP.pick [0, 1, 2, 3, 4, 5] rfl) (hD.sub [0, 1, 2, 3, 4, 5] rfl rfl) (Nat.le_of_ble_eq_true rfl) (Nat.le_of_ble_eq_true rfl) dX1_init_44
theorem hi_X3_init_X3 : ∀ w ∈ wsX30, w ∈ wsX3_init := fun w h => List.mem_cons_of_mem _ (List.mem_append_right _ h)
theorem oi_X3_init : Cond.code objectInit ⟨#[0xb1]⟩ 1 none ∈ wsX3_init := by decide +kernel
set_option maxRecDepth 100000 in
set_option maxHeartbeats 4000000 in
theorem c_X3_init (l : Launch) (g : Gt) (h0 : Nat)  : Ctr l g yX3_init wsX3_init ({ frames := 1, cells := 4, slots := 120, locals := 12 } : Room) [.ref h0] [(h0, .inr (3, [.null, .null, .null, .null, .int 0]))] (fun A => QV g A (fun _ : Nat → Nat => True) (fun u => [(h0, .inr (3, [.ref (u 0), .ref (u 1), .ref (u 2), .ref (u 3), .int 0])), ((u 0), .inl (g.2 0, 30, .inl z0)), ((u 1), .inl (g.2 0, 30, .inl z0)), ((u 2), .inl (g.2 0, 30, .inl z0)), ((u 3), .inl (g.2 0, 30, .inl z0))])) := by
  refine Ctr.of (cc := cX3_init) (maxL := 1) (ret := none) (by decide) rfl (Nat.le_of_ble_eq_true rfl) ?_
  intro p e s m below meth c A ls H C hP hD hA hS hl
  obtain ⟨hx, hb, hr, hts, hown, hlocks, hml, hin, hKN⟩ := id C
  have hK := hKN.1
  have hN := hKN.2
  have F : CallFix p m c cX3_init 1 s _ wsX3_init yX3_init.cls := ⟨hx, hb, hml, hown, hts⟩
  have hin : meth.name = "<init>" := hin rfl
  have hl : lv_has ls 1 [(0, .ref h0)] := hl
  refine lv_aload_n hx hb dX3_init_0 rfl (lv_at hl 0 rfl) ?_
  refine W.objInit hx hb hown (hts (.methodLink RX3 3 objectInit) (by decide +kernel)) (hts (.instanceMethod objectInit) (by decide +kernel)) (hts (.code objectInit ⟨#[0xb1]⟩ 1 none) (oi_X3_init)) rfl (by rw [hml]; exact hl.1) rfl dX3_init_1 (Nat.le_of_ble_eq_true rfl) (Nat.le_of_ble_eq_true rfl) ?_
  refine W.eq (g2 := F0 m 4 ls []) rfl ?_
  refine lv_aload_n hx hb dX3_init_4 rfl (lv_at hl 0 rfl) ?_
  refine lv_bipush (v := 30) hx hb dX3_init_5 (by decide) ?_
  refine newG (ty := .int) (a0 := (30, .inl z0)) 0 rfl (fun _ h => h) C (by decide +kernel) rfl hP hD hS hA (fun _ => rfl) (by decide) (N' := 30) (by decide) (by decide) (Nat.le_of_ble_eq_true rfl) (Nat.le_of_ble_eq_true rfl) dX3_init_7 (fun q1 H hP hD hS => ?_)
  refine W.widen (k := 1) (n := 30) (Nat.le_of_ble_eq_true rfl) (Nat.le_of_ble_eq_true rfl) ?_
  have hP : va_P g.1 vwCl [(h0, .inr (3, [.null, .null, .null, .null, .int 0])), (q1, .inl (g.2 0, 30, .inl z0))] H := hP
  have hD : va_D A [(h0, .inr (3, [.null, .null, .null, .null, .int 0])), (q1, .inl (g.2 0, 30, .inl z0))] := hD
  refine va_putF (D := g.1) (ci := 3) (v := .ref q1) (ty := .array .int) (C := RX3) (T := TX3) (N := 5) hx hb hts hi_X3_init_X3 tyX3 tyX3_ok nmX3 hown hK hP hD hS 0 rfl rfl 0 (by decide) (hts (.fieldLink RX3 9 "OilPush$Orders" "waitsFor" "[I") (by decide +kernel)) (fun _ h => h) rfl hin rfl (by decide +kernel) rfl rfl (Nat.le_of_ble_eq_true rfl) dX3_init_9 (fun H locs hP hD hS => ?_)
  have hP : va_P g.1 vwCl [(h0, .inr (3, [.ref q1, .null, .null, .null, .int 0])), (q1, .inl (g.2 0, 30, .inl z0))] H := hP
  have hD : va_D A [(h0, .inr (3, [.ref q1, .null, .null, .null, .int 0])), (q1, .inl (g.2 0, 30, .inl z0))] := hD
  refine lv_aload_n hx hb dX3_init_12 rfl (lv_at hl 0 rfl) ?_
  refine lv_bipush (v := 30) hx hb dX3_init_13 (by decide) ?_
  refine newG (ty := .int) (a0 := (30, .inl z0)) 0 rfl (fun _ h => h) C (by decide +kernel) rfl hP hD hS hA (fun _ => rfl) (by decide) (N' := 30) (by decide) (by decide) (Nat.le_of_ble_eq_true rfl) (Nat.le_of_ble_eq_true rfl) dX3_init_15 (fun q2 H hP hD hS => ?_)
  refine W.widen (k := 2) (n := 60) (Nat.le_of_ble_eq_true rfl) (Nat.le_of_ble_eq_true rfl) ?_
  have hP : va_P g.1 vwCl [(h0, .inr (3, [.ref q1, .null, .null, .null, .int 0])), (q1, .inl (g.2 0, 30, .inl z0)), (q2, .inl (g.2 0, 30, .inl z0))] H := hP
  have hD : va_D A [(h0, .inr (3, [.ref q1, .null, .null, .null, .int 0])), (q1, .inl (g.2 0, 30, .inl z0)), (q2, .inl (g.2 0, 30, .inl z0))] := hD
  refine va_putF (D := g.1) (ci := 3) (v := .ref q2) (ty := .array .int) (C := RX3) (T := TX3) (N := 5) hx hb hts hi_X3_init_X3 tyX3 tyX3_ok nmX3 hown hK hP hD hS 0 rfl rfl 1 (by decide) (hts (.fieldLink RX3 15 "OilPush$Orders" "end" "[I") (by decide +kernel)) (fun _ h => h) rfl hin rfl (by decide +kernel) rfl rfl (Nat.le_of_ble_eq_true rfl) dX3_init_17 (fun H locs hP hD hS => ?_)
  have hP : va_P g.1 vwCl [(h0, .inr (3, [.ref q1, .ref q2, .null, .null, .int 0])), (q1, .inl (g.2 0, 30, .inl z0)), (q2, .inl (g.2 0, 30, .inl z0))] H := hP
  have hD : va_D A [(h0, .inr (3, [.ref q1, .ref q2, .null, .null, .int 0])), (q1, .inl (g.2 0, 30, .inl z0)), (q2, .inl (g.2 0, 30, .inl z0))] := hD
  refine lv_aload_n hx hb dX3_init_20 rfl (lv_at hl 0 rfl) ?_
  refine lv_bipush (v := 30) hx hb dX3_init_21 (by decide) ?_
  refine newG (ty := .int) (a0 := (30, .inl z0)) 0 rfl (fun _ h => h) C (by decide +kernel) rfl hP hD hS hA (fun _ => rfl) (by decide) (N' := 30) (by decide) (by decide) (Nat.le_of_ble_eq_true rfl) (Nat.le_of_ble_eq_true rfl) dX3_init_23 (fun q3 H hP hD hS => ?_)
  refine W.widen (k := 3) (n := 90) (Nat.le_of_ble_eq_true rfl) (Nat.le_of_ble_eq_true rfl) ?_
  have hP : va_P g.1 vwCl [(h0, .inr (3, [.ref q1, .ref q2, .null, .null, .int 0])), (q1, .inl (g.2 0, 30, .inl z0)), (q2, .inl (g.2 0, 30, .inl z0)), (q3, .inl (g.2 0, 30, .inl z0))] H := hP
  have hD : va_D A [(h0, .inr (3, [.ref q1, .ref q2, .null, .null, .int 0])), (q1, .inl (g.2 0, 30, .inl z0)), (q2, .inl (g.2 0, 30, .inl z0)), (q3, .inl (g.2 0, 30, .inl z0))] := hD
  refine va_putF (D := g.1) (ci := 3) (v := .ref q3) (ty := .array .int) (C := RX3) (T := TX3) (N := 5) hx hb hts hi_X3_init_X3 tyX3 tyX3_ok nmX3 hown hK hP hD hS 0 rfl rfl 2 (by decide) (hts (.fieldLink RX3 18 "OilPush$Orders" "turned" "[I") (by decide +kernel)) (fun _ h => h) rfl hin rfl (by decide +kernel) rfl rfl (Nat.le_of_ble_eq_true rfl) dX3_init_25 (fun H locs hP hD hS => ?_)
  have hP : va_P g.1 vwCl [(h0, .inr (3, [.ref q1, .ref q2, .ref q3, .null, .int 0])), (q1, .inl (g.2 0, 30, .inl z0)), (q2, .inl (g.2 0, 30, .inl z0)), (q3, .inl (g.2 0, 30, .inl z0))] H := hP
  have hD : va_D A [(h0, .inr (3, [.ref q1, .ref q2, .ref q3, .null, .int 0])), (q1, .inl (g.2 0, 30, .inl z0)), (q2, .inl (g.2 0, 30, .inl z0)), (q3, .inl (g.2 0, 30, .inl z0))] := hD
  refine lv_aload_n hx hb dX3_init_28 rfl (lv_at hl 0 rfl) ?_
  refine lv_bipush (v := 30) hx hb dX3_init_29 (by decide) ?_
  refine newG (ty := .int) (a0 := (30, .inl z0)) 0 rfl (fun _ h => h) C (by decide +kernel) rfl hP hD hS hA (fun _ => rfl) (by decide) (N' := 30) (by decide) (by decide) (Nat.le_of_ble_eq_true rfl) (Nat.le_of_ble_eq_true rfl) dX3_init_31 (fun q4 H hP hD hS => ?_)
  refine W.widen (k := 4) (n := 120) (Nat.le_of_ble_eq_true rfl) (Nat.le_of_ble_eq_true rfl) ?_
  have hP : va_P g.1 vwCl [(h0, .inr (3, [.ref q1, .ref q2, .ref q3, .null, .int 0])), (q1, .inl (g.2 0, 30, .inl z0)), (q2, .inl (g.2 0, 30, .inl z0)), (q3, .inl (g.2 0, 30, .inl z0)), (q4, .inl (g.2 0, 30, .inl z0))] H := hP
  have hD : va_D A [(h0, .inr (3, [.ref q1, .ref q2, .ref q3, .null, .int 0])), (q1, .inl (g.2 0, 30, .inl z0)), (q2, .inl (g.2 0, 30, .inl z0)), (q3, .inl (g.2 0, 30, .inl z0)), (q4, .inl (g.2 0, 30, .inl z0))] := hD
  refine va_putF (D := g.1) (ci := 3) (v := .ref q4) (ty := .array .int) (C := RX3) (T := TX3) (N := 5) hx hb hts hi_X3_init_X3 tyX3 tyX3_ok nmX3 hown hK hP hD hS 0 rfl rfl 3 (by decide) (hts (.fieldLink RX3 21 "OilPush$Orders" "valve" "[I") (by decide +kernel)) (fun _ h => h) rfl hin rfl (by decide +kernel) rfl rfl (Nat.le_of_ble_eq_true rfl) dX3_init_33 (fun H locs hP hD hS => ?_)
  have hP : va_P g.1 vwCl [(h0, .inr (3, [.ref q1, .ref q2, .ref q3, .ref q4, .int 0])), (q1, .inl (g.2 0, 30, .inl z0)), (q2, .inl (g.2 0, 30, .inl z0)), (q3, .inl (g.2 0, 30, .inl z0)), (q4, .inl (g.2 0, 30, .inl z0))] H := hP
  have hD : va_D A [(h0, .inr (3, [.ref q1, .ref q2, .ref q3, .ref q4, .int 0])), (q1, .inl (g.2 0, 30, .inl z0)), (q2, .inl (g.2 0, 30, .inl z0)), (q3, .inl (g.2 0, 30, .inl z0)), (q4, .inl (g.2 0, 30, .inl z0))] := hD
  exact retV C hS (fun k => ([q1, q2, q3, q4] : List Nat).getD k 0) trivial (hP.pick [0, 1, 2, 3, 4] rfl) (hD.sub [0, 1, 2, 3, 4] rfl rfl) (Nat.le_of_ble_eq_true rfl) (Nat.le_of_ble_eq_true rfl) dX3_init_36
theorem hi_X5_init_X5 : ∀ w ∈ wsX50, w ∈ wsX5_init := fun w h => List.mem_cons_of_mem _ (List.mem_append_right _ h)
theorem oi_X5_init : Cond.code objectInit ⟨#[0xb1]⟩ 1 none ∈ wsX5_init := by decide +kernel
set_option maxRecDepth 100000 in
set_option maxHeartbeats 4000000 in
theorem c_X5_init (l : Launch) (g : Gt) (h0 : Nat)  : Ctr l g yX5_init wsX5_init ({ frames := 1, cells := 3, slots := 60, locals := 12 } : Room) [.ref h0] [(h0, .inr (5, [.null, .null, .null, .int 0]))] (fun A => QV g A (fun _ : Nat → Nat => True) (fun u => [(h0, .inr (5, [.ref (u 0), .ref (u 1), .ref (u 2), .int 0])), ((u 0), .inl (g.2 0, 20, .inl z0)), ((u 1), .inl (g.2 0, 20, .inl z0)), ((u 2), .inl (g.2 0, 20, .inl z0))])) := by
  refine Ctr.of (cc := cX5_init) (maxL := 1) (ret := none) (by decide) rfl (Nat.le_of_ble_eq_true rfl) ?_
  intro p e s m below meth c A ls H C hP hD hA hS hl
  obtain ⟨hx, hb, hr, hts, hown, hlocks, hml, hin, hKN⟩ := id C
  have hK := hKN.1
  have hN := hKN.2
  have F : CallFix p m c cX5_init 1 s _ wsX5_init yX5_init.cls := ⟨hx, hb, hml, hown, hts⟩
  have hin : meth.name = "<init>" := hin rfl
  have hl : lv_has ls 1 [(0, .ref h0)] := hl
  refine lv_aload_n hx hb dX5_init_0 rfl (lv_at hl 0 rfl) ?_
  refine W.objInit hx hb hown (hts (.methodLink RX5 3 objectInit) (by decide +kernel)) (hts (.instanceMethod objectInit) (by decide +kernel)) (hts (.code objectInit ⟨#[0xb1]⟩ 1 none) (oi_X5_init)) rfl (by rw [hml]; exact hl.1) rfl dX5_init_1 (Nat.le_of_ble_eq_true rfl) (Nat.le_of_ble_eq_true rfl) ?_
  refine W.eq (g2 := F0 m 4 ls []) rfl ?_
  refine lv_aload_n hx hb dX5_init_4 rfl (lv_at hl 0 rfl) ?_
  refine lv_bipush (v := 20) hx hb dX5_init_5 (by decide) ?_
  refine newG (ty := .int) (a0 := (20, .inl z0)) 0 rfl (fun _ h => h) C (by decide +kernel) rfl hP hD hS hA (fun _ => rfl) (by decide) (N' := 20) (by decide) (by decide) (Nat.le_of_ble_eq_true rfl) (Nat.le_of_ble_eq_true rfl) dX5_init_7 (fun q1 H hP hD hS => ?_)
  refine W.widen (k := 1) (n := 20) (Nat.le_of_ble_eq_true rfl) (Nat.le_of_ble_eq_true rfl) ?_
  have hP : va_P g.1 vwCl [(h0, .inr (5, [.null, .null, .null, .int 0])), (q1, .inl (g.2 0, 20, .inl z0))] H := hP
  have hD : va_D A [(h0, .inr (5, [.null, .null, .null, .int 0])), (q1, .inl (g.2 0, 20, .inl z0))] := hD
  refine va_putF (D := g.1) (ci := 5) (v := .ref q1) (ty := .array .int) (C := RX5) (T := TX5) (N := 4) hx hb hts hi_X5_init_X5 tyX5 tyX5_ok nmX5 hown hK hP hD hS 0 rfl rfl 0 (by decide) (hts (.fieldLink RX5 9 "OilPush$Readings" "time" "[I") (by decide +kernel)) (fun _ h => h) rfl hin rfl (by decide +kernel) rfl rfl (Nat.le_of_ble_eq_true rfl) dX5_init_9 (fun H locs hP hD hS => ?_)
  have hP : va_P g.1 vwCl [(h0, .inr (5, [.ref q1, .null, .null, .int 0])), (q1, .inl (g.2 0, 20, .inl z0))] H := hP
  have hD : va_D A [(h0, .inr (5, [.ref q1, .null, .null, .int 0])), (q1, .inl (g.2 0, 20, .inl z0))] := hD
  refine lv_aload_n hx hb dX5_init_12 rfl (lv_at hl 0 rfl) ?_
  refine lv_bipush (v := 20) hx hb dX5_init_13 (by decide) ?_
  refine newG (ty := .int) (a0 := (20, .inl z0)) 0 rfl (fun _ h => h) C (by decide +kernel) rfl hP hD hS hA (fun _ => rfl) (by decide) (N' := 20) (by decide) (by decide) (Nat.le_of_ble_eq_true rfl) (Nat.le_of_ble_eq_true rfl) dX5_init_15 (fun q2 H hP hD hS => ?_)
  refine W.widen (k := 2) (n := 40) (Nat.le_of_ble_eq_true rfl) (Nat.le_of_ble_eq_true rfl) ?_
  have hP : va_P g.1 vwCl [(h0, .inr (5, [.ref q1, .null, .null, .int 0])), (q1, .inl (g.2 0, 20, .inl z0)), (q2, .inl (g.2 0, 20, .inl z0))] H := hP
  have hD : va_D A [(h0, .inr (5, [.ref q1, .null, .null, .int 0])), (q1, .inl (g.2 0, 20, .inl z0)), (q2, .inl (g.2 0, 20, .inl z0))] := hD
  refine va_putF (D := g.1) (ci := 5) (v := .ref q2) (ty := .array .int) (C := RX5) (T := TX5) (N := 4) hx hb hts hi_X5_init_X5 tyX5 tyX5_ok nmX5 hown hK hP hD hS 0 rfl rfl 1 (by decide) (hts (.fieldLink RX5 15 "OilPush$Readings" "of" "[I") (by decide +kernel)) (fun _ h => h) rfl hin rfl (by decide +kernel) rfl rfl (Nat.le_of_ble_eq_true rfl) dX5_init_17 (fun H locs hP hD hS => ?_)
  have hP : va_P g.1 vwCl [(h0, .inr (5, [.ref q1, .ref q2, .null, .int 0])), (q1, .inl (g.2 0, 20, .inl z0)), (q2, .inl (g.2 0, 20, .inl z0))] H := hP
  have hD : va_D A [(h0, .inr (5, [.ref q1, .ref q2, .null, .int 0])), (q1, .inl (g.2 0, 20, .inl z0)), (q2, .inl (g.2 0, 20, .inl z0))] := hD
  refine lv_aload_n hx hb dX5_init_20 rfl (lv_at hl 0 rfl) ?_
  refine lv_bipush (v := 20) hx hb dX5_init_21 (by decide) ?_
  refine newG (ty := .int) (a0 := (20, .inl z0)) 0 rfl (fun _ h => h) C (by decide +kernel) rfl hP hD hS hA (fun _ => rfl) (by decide) (N' := 20) (by decide) (by decide) (Nat.le_of_ble_eq_true rfl) (Nat.le_of_ble_eq_true rfl) dX5_init_23 (fun q3 H hP hD hS => ?_)
  refine W.widen (k := 3) (n := 60) (Nat.le_of_ble_eq_true rfl) (Nat.le_of_ble_eq_true rfl) ?_
  have hP : va_P g.1 vwCl [(h0, .inr (5, [.ref q1, .ref q2, .null, .int 0])), (q1, .inl (g.2 0, 20, .inl z0)), (q2, .inl (g.2 0, 20, .inl z0)), (q3, .inl (g.2 0, 20, .inl z0))] H := hP
  have hD : va_D A [(h0, .inr (5, [.ref q1, .ref q2, .null, .int 0])), (q1, .inl (g.2 0, 20, .inl z0)), (q2, .inl (g.2 0, 20, .inl z0)), (q3, .inl (g.2 0, 20, .inl z0))] := hD
  refine va_putF (D := g.1) (ci := 5) (v := .ref q3) (ty := .array .int) (C := RX5) (T := TX5) (N := 4) hx hb hts hi_X5_init_X5 tyX5 tyX5_ok nmX5 hown hK hP hD hS 0 rfl rfl 2 (by decide) (hts (.fieldLink RX5 18 "OilPush$Readings" "oil" "[I") (by decide +kernel)) (fun _ h => h) rfl hin rfl (by decide +kernel) rfl rfl (Nat.le_of_ble_eq_true rfl) dX5_init_25 (fun H locs hP hD hS => ?_)
  have hP : va_P g.1 vwCl [(h0, .inr (5, [.ref q1, .ref q2, .ref q3, .int 0])), (q1, .inl (g.2 0, 20, .inl z0)), (q2, .inl (g.2 0, 20, .inl z0)), (q3, .inl (g.2 0, 20, .inl z0))] H := hP
  have hD : va_D A [(h0, .inr (5, [.ref q1, .ref q2, .ref q3, .int 0])), (q1, .inl (g.2 0, 20, .inl z0)), (q2, .inl (g.2 0, 20, .inl z0)), (q3, .inl (g.2 0, 20, .inl z0))] := hD
  exact retV C hS (fun k => ([q1, q2, q3] : List Nat).getD k 0) trivial (hP.pick [0, 1, 2, 3] rfl) (hD.sub [0, 1, 2, 3] rfl rfl) (Nat.le_of_ble_eq_true rfl) (Nat.le_of_ble_eq_true rfl) dX5_init_28
theorem oi_X9_init : Cond.code objectInit ⟨#[0xb1]⟩ 1 none ∈ wsX9_init := by decide +kernel
set_option maxRecDepth 100000 in
set_option maxHeartbeats 4000000 in
theorem c_X9_init (l : Launch) (g : Gt) (h0 : Nat)  : Ctr l g yX9_init wsX9_init ({ frames := 1, cells := 0, slots := 0, locals := 12 } : Room) [.ref h0] [(h0, .inr (9, [.int 0]))] (fun A => QV g A (fun _ : Nat → Nat => True) (fun u => [(h0, .inr (9, [.int 0]))])) := by
  refine Ctr.of (cc := cX9_init) (maxL := 1) (ret := none) (by decide) rfl (Nat.le_of_ble_eq_true rfl) ?_
  intro p e s m below meth c A ls H C hP hD hA hS hl
  obtain ⟨hx, hb, hr, hts, hown, hlocks, hml, hin, hKN⟩ := id C
  have hK := hKN.1
  have hN := hKN.2
  have F : CallFix p m c cX9_init 1 s _ wsX9_init yX9_init.cls := ⟨hx, hb, hml, hown, hts⟩
  have hin : meth.name = "<init>" := hin rfl
  have hl : lv_has ls 1 [(0, .ref h0)] := hl
  refine lv_aload_n hx hb dX9_init_0 rfl (lv_at hl 0 rfl) ?_
  refine W.objInit hx hb hown (hts (.methodLink RX9 1 objectInit) (by decide +kernel)) (hts (.instanceMethod objectInit) (by decide +kernel)) (hts (.code objectInit ⟨#[0xb1]⟩ 1 none) (oi_X9_init)) rfl (by rw [hml]; exact hl.1) rfl dX9_init_1 (Nat.le_of_ble_eq_true rfl) (Nat.le_of_ble_eq_true rfl) ?_
  refine W.eq (g2 := F0 m 4 ls []) rfl ?_
  exact retV C hS (fun k => ([] : List Nat).getD k 0) trivial (hP.pick [0] rfl) (hD.sub [0] rfl rfl) (Nat.le_of_ble_eq_true rfl) (Nat.le_of_ble_eq_true rfl) dX9_init_4
theorem hi_X6_init_X6 : ∀ w ∈ wsX60, w ∈ wsX6_init := fun w h => List.mem_cons_of_mem _ (List.mem_append_right _ h)
theorem oi_X6_init : Cond.code objectInit ⟨#[0xb1]⟩ 1 none ∈ wsX6_init := by decide +kernel
set_option maxRecDepth 100000 in
set_option maxHeartbeats 4000000 in
theorem c_X6_init (l : Launch) (g : Gt) (h0 : Nat)  : Ctr l g yX6_init wsX6_init ({ frames := 1, cells := 1, slots := 20, locals := 12 } : Room) [.ref h0] [(h0, .inr (6, [.null, .int 0, .int 0, .int 0]))] (fun A => QV g A (fun _ : Nat → Nat => True) (fun u => [(h0, .inr (6, [.ref (u 0), .int 0, .int 0, .int 0])), ((u 0), .inl (g.2 0, 20, .inl z0))])) := by
  refine Ctr.of (cc := cX6_init) (maxL := 1) (ret := none) (by decide) rfl (Nat.le_of_ble_eq_true rfl) ?_
  intro p e s m below meth c A ls H C hP hD hA hS hl
  obtain ⟨hx, hb, hr, hts, hown, hlocks, hml, hin, hKN⟩ := id C
  have hK := hKN.1
  have hN := hKN.2
  have F : CallFix p m c cX6_init 1 s _ wsX6_init yX6_init.cls := ⟨hx, hb, hml, hown, hts⟩
  have hin : meth.name = "<init>" := hin rfl
  have hl : lv_has ls 1 [(0, .ref h0)] := hl
  refine lv_aload_n hx hb dX6_init_0 rfl (lv_at hl 0 rfl) ?_
  refine W.objInit hx hb hown (hts (.methodLink RX6 3 objectInit) (by decide +kernel)) (hts (.instanceMethod objectInit) (by decide +kernel)) (hts (.code objectInit ⟨#[0xb1]⟩ 1 none) (oi_X6_init)) rfl (by rw [hml]; exact hl.1) rfl dX6_init_1 (Nat.le_of_ble_eq_true rfl) (Nat.le_of_ble_eq_true rfl) ?_
  refine W.eq (g2 := F0 m 4 ls []) rfl ?_
  refine lv_aload_n hx hb dX6_init_4 rfl (lv_at hl 0 rfl) ?_
  refine lv_bipush (v := 20) hx hb dX6_init_5 (by decide) ?_
  refine newG (ty := .int) (a0 := (20, .inl z0)) 0 rfl (fun _ h => h) C (by decide +kernel) rfl hP hD hS hA (fun _ => rfl) (by decide) (N' := 20) (by decide) (by decide) (Nat.le_of_ble_eq_true rfl) (Nat.le_of_ble_eq_true rfl) dX6_init_7 (fun q1 H hP hD hS => ?_)
  refine W.widen (k := 1) (n := 20) (Nat.le_of_ble_eq_true rfl) (Nat.le_of_ble_eq_true rfl) ?_
  have hP : va_P g.1 vwCl [(h0, .inr (6, [.null, .int 0, .int 0, .int 0])), (q1, .inl (g.2 0, 20, .inl z0))] H := hP
  have hD : va_D A [(h0, .inr (6, [.null, .int 0, .int 0, .int 0])), (q1, .inl (g.2 0, 20, .inl z0))] := hD
  refine va_putF (D := g.1) (ci := 6) (v := .ref q1) (ty := .array .int) (C := RX6) (T := TX6) (N := 4) hx hb hts hi_X6_init_X6 tyX6 tyX6_ok nmX6 hown hK hP hD hS 0 rfl rfl 0 (by decide) (hts (.fieldLink RX6 9 "OilPush$Sheet" "cells" "[I") (by decide +kernel)) (fun _ h => h) rfl hin rfl (by decide +kernel) rfl rfl (Nat.le_of_ble_eq_true rfl) dX6_init_9 (fun H locs hP hD hS => ?_)
  have hP : va_P g.1 vwCl [(h0, .inr (6, [.ref q1, .int 0, .int 0, .int 0])), (q1, .inl (g.2 0, 20, .inl z0))] H := hP
  have hD : va_D A [(h0, .inr (6, [.ref q1, .int 0, .int 0, .int 0])), (q1, .inl (g.2 0, 20, .inl z0))] := hD
  exact retV C hS (fun k => ([q1] : List Nat).getD k 0) trivial (hP.pick [0, 1] rfl) (hD.sub [0, 1] rfl rfl) (Nat.le_of_ble_eq_true rfl) (Nat.le_of_ble_eq_true rfl) dX6_init_12
theorem hi_X0_init_X0 : ∀ w ∈ wsX00, w ∈ wsX0_init := fun w h => List.mem_cons_of_mem _ (List.mem_append_left _ (List.mem_append_left _ (List.mem_append_right _ h)))
theorem oi_X0_init : Cond.code objectInit ⟨#[0xb1]⟩ 1 none ∈ wsX0_init := by decide +kernel
set_option maxRecDepth 100000 in
set_option maxHeartbeats 4000000 in
theorem c_X0_init_X0 (l : Launch) (g : Gt) (h0 : Nat) (number : Int32) (area : Int32) (stroke : Int32)  : Ctr l g yX0_init wsX0_init ({ frames := 1, cells := 1, slots := 10, locals := 12 } : Room) [.ref h0, .int number, .int area, .int stroke] [(h0, .inr (0, [.int 0, .int 0, .int 0, .null, .int 0, .int 0, .int 0]))] (fun A => QV g A (fun _ : Nat → Nat => True) (fun u => [(h0, .inr (0, [.int number, .int area, .int stroke, .ref (u 0), .int 1, .int 0, .int 1000])), ((u 0), .inl (g.2 0, 10, .inl z0))])) := by
  refine Ctr.of (cc := cX0_init) (maxL := 4) (ret := none) (by decide) rfl (Nat.le_of_ble_eq_true rfl) ?_
  intro p e s m below meth c A ls H C hP hD hA hS hl
  obtain ⟨hx, hb, hr, hts, hown, hlocks, hml, hin, hKN⟩ := id C
  have hK := hKN.1
  have hN := hKN.2
  have F : CallFix p m c cX0_init 4 s _ wsX0_init yX0_init.cls := ⟨hx, hb, hml, hown, hts⟩
  have hin : meth.name = "<init>" := hin rfl
  have hl : lv_has ls 4 [(0, .ref h0), (1, .int number), (2, .int area), (3, .int stroke)] := hl
  refine lv_aload_n hx hb dX0_init_0 rfl (lv_at hl 0 rfl) ?_
  refine W.objInit hx hb hown (hts (.methodLink RX0 3 objectInit) (by decide +kernel)) (hts (.instanceMethod objectInit) (by decide +kernel)) (hts (.code objectInit ⟨#[0xb1]⟩ 1 none) (oi_X0_init)) rfl (by rw [hml]; exact hl.1) rfl dX0_init_1 (Nat.le_of_ble_eq_true rfl) (Nat.le_of_ble_eq_true rfl) ?_
  refine W.eq (g2 := F0 m 4 ls []) rfl ?_
  refine lv_aload_n hx hb dX0_init_4 rfl (lv_at hl 0 rfl) ?_
  refine lv_bipush (v := 10) hx hb dX0_init_5 (by decide) ?_
  refine newG (ty := .int) (a0 := (10, .inl z0)) 0 rfl (fun _ h => h) C (by decide +kernel) rfl hP hD hS hA (fun _ => rfl) (by decide) (N' := 10) (by decide) (by decide) (Nat.le_of_ble_eq_true rfl) (Nat.le_of_ble_eq_true rfl) dX0_init_7 (fun q1 H hP hD hS => ?_)
  refine W.widen (k := 1) (n := 10) (Nat.le_of_ble_eq_true rfl) (Nat.le_of_ble_eq_true rfl) ?_
  have hP : va_P g.1 vwCl [(h0, .inr (0, [.int 0, .int 0, .int 0, .null, .int 0, .int 0, .int 0])), (q1, .inl (g.2 0, 10, .inl z0))] H := hP
  have hD : va_D A [(h0, .inr (0, [.int 0, .int 0, .int 0, .null, .int 0, .int 0, .int 0])), (q1, .inl (g.2 0, 10, .inl z0))] := hD
  refine va_putF (D := g.1) (ci := 0) (v := .ref q1) (ty := .array .int) (C := RX0) (T := TX0) (N := 7) hx hb hts hi_X0_init_X0 tyX0 tyX0_ok nmX0 hown hK hP hD hS 0 rfl rfl 3 (by decide) (hts (.fieldLink RX0 9 "OilPush$Cylinder" "loads" "[I") (by decide +kernel)) (fun _ h => h) rfl hin rfl (by decide +kernel) rfl rfl (Nat.le_of_ble_eq_true rfl) dX0_init_9 (fun H locs hP hD hS => ?_)
  have hP : va_P g.1 vwCl [(h0, .inr (0, [.int 0, .int 0, .int 0, .ref q1, .int 0, .int 0, .int 0])), (q1, .inl (g.2 0, 10, .inl z0))] H := hP
  have hD : va_D A [(h0, .inr (0, [.int 0, .int 0, .int 0, .ref q1, .int 0, .int 0, .int 0])), (q1, .inl (g.2 0, 10, .inl z0))] := hD
  refine lv_aload_n hx hb dX0_init_12 rfl (lv_at hl 0 rfl) ?_
  refine lv_iconst (v := 1) hx hb dX0_init_13 (by decide) ?_
  refine va_put (D := g.1) (ci := 0) (v := .int 1) (ty := .int) (C := RX0) (T := TX0) (N := 7) hx hb hts hi_X0_init_X0 tyX0 tyX0_ok nmX0 hown hK hP hD hS 0 rfl rfl 4 (by decide) (hts (.fieldLink RX0 15 "OilPush$Cylinder" "loadCount" "I") (by decide +kernel)) (fun _ h => h) rfl (by decide +kernel) rfl rfl (Nat.le_of_ble_eq_true rfl) dX0_init_14 (fun H locs hP hD hS => ?_)
  have hP : va_P g.1 vwCl [(h0, .inr (0, [.int 0, .int 0, .int 0, .ref q1, .int 1, .int 0, .int 0])), (q1, .inl (g.2 0, 10, .inl z0))] H := hP
  have hD : va_D A [(h0, .inr (0, [.int 0, .int 0, .int 0, .ref q1, .int 1, .int 0, .int 0])), (q1, .inl (g.2 0, 10, .inl z0))] := hD
  refine lv_aload_n hx hb dX0_init_17 rfl (lv_at hl 0 rfl) ?_
  refine lv_sipush (v := 1000) hx hb dX0_init_18 (by decide) ?_
  refine va_put (D := g.1) (ci := 0) (v := .int 1000) (ty := .int) (C := RX0) (T := TX0) (N := 7) hx hb hts hi_X0_init_X0 tyX0 tyX0_ok nmX0 hown hK hP hD hS 0 rfl rfl 6 (by decide) (hts (.fieldLink RX0 19 "OilPush$Cylinder" "flow" "I") (by decide +kernel)) (fun _ h => h) rfl (by decide +kernel) rfl rfl (Nat.le_of_ble_eq_true rfl) dX0_init_21 (fun H locs hP hD hS => ?_)
  have hP : va_P g.1 vwCl [(h0, .inr (0, [.int 0, .int 0, .int 0, .ref q1, .int 1, .int 0, .int 1000])), (q1, .inl (g.2 0, 10, .inl z0))] H := hP
  have hD : va_D A [(h0, .inr (0, [.int 0, .int 0, .int 0, .ref q1, .int 1, .int 0, .int 1000])), (q1, .inl (g.2 0, 10, .inl z0))] := hD
  refine lv_aload_n hx hb dX0_init_24 rfl (lv_at hl 0 rfl) ?_
  refine lv_iload_n hx hb dX0_init_25 rfl (lv_at hl 1 rfl) ?_
  refine va_putF (D := g.1) (ci := 0) (v := .int number) (ty := .int) (C := RX0) (T := TX0) (N := 7) hx hb hts hi_X0_init_X0 tyX0 tyX0_ok nmX0 hown hK hP hD hS 0 rfl rfl 0 (by decide) (hts (.fieldLink RX0 22 "OilPush$Cylinder" "number" "I") (by decide +kernel)) (fun _ h => h) rfl hin rfl (by decide +kernel) rfl rfl (Nat.le_of_ble_eq_true rfl) dX0_init_26 (fun H locs hP hD hS => ?_)
  have hP : va_P g.1 vwCl [(h0, .inr (0, [.int number, .int 0, .int 0, .ref q1, .int 1, .int 0, .int 1000])), (q1, .inl (g.2 0, 10, .inl z0))] H := hP
  have hD : va_D A [(h0, .inr (0, [.int number, .int 0, .int 0, .ref q1, .int 1, .int 0, .int 1000])), (q1, .inl (g.2 0, 10, .inl z0))] := hD
  refine lv_aload_n hx hb dX0_init_29 rfl (lv_at hl 0 rfl) ?_
  refine lv_iload_n hx hb dX0_init_30 rfl (lv_at hl 2 rfl) ?_
  refine va_putF (D := g.1) (ci := 0) (v := .int area) (ty := .int) (C := RX0) (T := TX0) (N := 7) hx hb hts hi_X0_init_X0 tyX0 tyX0_ok nmX0 hown hK hP hD hS 0 rfl rfl 1 (by decide) (hts (.fieldLink RX0 25 "OilPush$Cylinder" "area" "I") (by decide +kernel)) (fun _ h => h) rfl hin rfl (by decide +kernel) rfl rfl (Nat.le_of_ble_eq_true rfl) dX0_init_31 (fun H locs hP hD hS => ?_)
  have hP : va_P g.1 vwCl [(h0, .inr (0, [.int number, .int area, .int 0, .ref q1, .int 1, .int 0, .int 1000])), (q1, .inl (g.2 0, 10, .inl z0))] H := hP
  have hD : va_D A [(h0, .inr (0, [.int number, .int area, .int 0, .ref q1, .int 1, .int 0, .int 1000])), (q1, .inl (g.2 0, 10, .inl z0))] := hD
  refine lv_aload_n hx hb dX0_init_34 rfl (lv_at hl 0 rfl) ?_
  refine lv_iload_n hx hb dX0_init_35 rfl (lv_at hl 3 rfl) ?_
  refine va_putF (D := g.1) (ci := 0) (v := .int stroke) (ty := .int) (C := RX0) (T := TX0) (N := 7) hx hb hts hi_X0_init_X0 tyX0 tyX0_ok nmX0 hown hK hP hD hS 0 rfl rfl 2 (by decide) (hts (.fieldLink RX0 28 "OilPush$Cylinder" "stroke" "I") (by decide +kernel)) (fun _ h => h) rfl hin rfl (by decide +kernel) rfl rfl (Nat.le_of_ble_eq_true rfl) dX0_init_36 (fun H locs hP hD hS => ?_)
  have hP : va_P g.1 vwCl [(h0, .inr (0, [.int number, .int area, .int stroke, .ref q1, .int 1, .int 0, .int 1000])), (q1, .inl (g.2 0, 10, .inl z0))] H := hP
  have hD : va_D A [(h0, .inr (0, [.int number, .int area, .int stroke, .ref q1, .int 1, .int 0, .int 1000])), (q1, .inl (g.2 0, 10, .inl z0))] := hD
  exact retV C hS (fun k => ([q1] : List Nat).getD k 0) trivial (hP.pick [0, 1] rfl) (hD.sub [0, 1] rfl rfl) (Nat.le_of_ble_eq_true rfl) (Nat.le_of_ble_eq_true rfl) dX0_init_39
theorem hi_X0_init_X2 : ∀ w ∈ wsX20, w ∈ wsX0_init := fun w h => List.mem_cons_of_mem _ (List.mem_append_left _ (List.mem_append_right _ h))
set_option maxRecDepth 100000 in
set_option maxHeartbeats 4000000 in
theorem c_X0_init_X2 (l : Launch) (g : Gt) (h0 : Nat) (number : Int32) (area : Int32) (stroke : Int32)  : Ctr l g yX0_init wsX0_init ({ frames := 1, cells := 1, slots := 10, locals := 12 } : Room) [.ref h0, .int number, .int area, .int stroke] [(h0, .inr (2, [.int 0, .int 0, .int 0, .null, .int 0, .int 0, .int 0]))] (fun A => QV g A (fun _ : Nat → Nat => True) (fun u => [(h0, .inr (2, [.int number, .int area, .int stroke, .ref (u 0), .int 1, .int 0, .int 1000])), ((u 0), .inl (g.2 0, 10, .inl z0))])) := by
  refine Ctr.of (cc := cX0_init) (maxL := 4) (ret := none) (by decide) rfl (Nat.le_of_ble_eq_true rfl) ?_
  intro p e s m below meth c A ls H C hP hD hA hS hl
  obtain ⟨hx, hb, hr, hts, hown, hlocks, hml, hin, hKN⟩ := id C
  have hK := hKN.1
  have hN := hKN.2
  have F : CallFix p m c cX0_init 4 s _ wsX0_init yX0_init.cls := ⟨hx, hb, hml, hown, hts⟩
  have hin : meth.name = "<init>" := hin rfl
  have hl : lv_has ls 4 [(0, .ref h0), (1, .int number), (2, .int area), (3, .int stroke)] := hl
  refine lv_aload_n hx hb dX0_init_0 rfl (lv_at hl 0 rfl) ?_
  refine W.objInit hx hb hown (hts (.methodLink RX0 3 objectInit) (by decide +kernel)) (hts (.instanceMethod objectInit) (by decide +kernel)) (hts (.code objectInit ⟨#[0xb1]⟩ 1 none) (oi_X0_init)) rfl (by rw [hml]; exact hl.1) rfl dX0_init_1 (Nat.le_of_ble_eq_true rfl) (Nat.le_of_ble_eq_true rfl) ?_
  refine W.eq (g2 := F0 m 4 ls []) rfl ?_
  refine lv_aload_n hx hb dX0_init_4 rfl (lv_at hl 0 rfl) ?_
  refine lv_bipush (v := 10) hx hb dX0_init_5 (by decide) ?_
  refine newG (ty := .int) (a0 := (10, .inl z0)) 0 rfl (fun _ h => h) C (by decide +kernel) rfl hP hD hS hA (fun _ => rfl) (by decide) (N' := 10) (by decide) (by decide) (Nat.le_of_ble_eq_true rfl) (Nat.le_of_ble_eq_true rfl) dX0_init_7 (fun q1 H hP hD hS => ?_)
  refine W.widen (k := 1) (n := 10) (Nat.le_of_ble_eq_true rfl) (Nat.le_of_ble_eq_true rfl) ?_
  have hP : va_P g.1 vwCl [(h0, .inr (2, [.int 0, .int 0, .int 0, .null, .int 0, .int 0, .int 0])), (q1, .inl (g.2 0, 10, .inl z0))] H := hP
  have hD : va_D A [(h0, .inr (2, [.int 0, .int 0, .int 0, .null, .int 0, .int 0, .int 0])), (q1, .inl (g.2 0, 10, .inl z0))] := hD
  refine va_putF (D := g.1) (ci := 2) (v := .ref q1) (ty := .array .int) (C := RX2) (T := TX2) (N := 7) hx hb hts hi_X0_init_X2 tyX2 tyX2_ok nmX2 hown hK hP hD hS 0 rfl rfl 3 (by decide) (hts (.fieldLink RX0 9 "OilPush$Cylinder" "loads" "[I") (by decide +kernel)) (fun _ h => h) rfl hin rfl (by decide +kernel) rfl rfl (Nat.le_of_ble_eq_true rfl) dX0_init_9 (fun H locs hP hD hS => ?_)
  have hP : va_P g.1 vwCl [(h0, .inr (2, [.int 0, .int 0, .int 0, .ref q1, .int 0, .int 0, .int 0])), (q1, .inl (g.2 0, 10, .inl z0))] H := hP
  have hD : va_D A [(h0, .inr (2, [.int 0, .int 0, .int 0, .ref q1, .int 0, .int 0, .int 0])), (q1, .inl (g.2 0, 10, .inl z0))] := hD
  refine lv_aload_n hx hb dX0_init_12 rfl (lv_at hl 0 rfl) ?_
  refine lv_iconst (v := 1) hx hb dX0_init_13 (by decide) ?_
  refine va_put (D := g.1) (ci := 2) (v := .int 1) (ty := .int) (C := RX2) (T := TX2) (N := 7) hx hb hts hi_X0_init_X2 tyX2 tyX2_ok nmX2 hown hK hP hD hS 0 rfl rfl 4 (by decide) (hts (.fieldLink RX0 15 "OilPush$Cylinder" "loadCount" "I") (by decide +kernel)) (fun _ h => h) rfl (by decide +kernel) rfl rfl (Nat.le_of_ble_eq_true rfl) dX0_init_14 (fun H locs hP hD hS => ?_)
  have hP : va_P g.1 vwCl [(h0, .inr (2, [.int 0, .int 0, .int 0, .ref q1, .int 1, .int 0, .int 0])), (q1, .inl (g.2 0, 10, .inl z0))] H := hP
  have hD : va_D A [(h0, .inr (2, [.int 0, .int 0, .int 0, .ref q1, .int 1, .int 0, .int 0])), (q1, .inl (g.2 0, 10, .inl z0))] := hD
  refine lv_aload_n hx hb dX0_init_17 rfl (lv_at hl 0 rfl) ?_
  refine lv_sipush (v := 1000) hx hb dX0_init_18 (by decide) ?_
  refine va_put (D := g.1) (ci := 2) (v := .int 1000) (ty := .int) (C := RX2) (T := TX2) (N := 7) hx hb hts hi_X0_init_X2 tyX2 tyX2_ok nmX2 hown hK hP hD hS 0 rfl rfl 6 (by decide) (hts (.fieldLink RX0 19 "OilPush$Cylinder" "flow" "I") (by decide +kernel)) (fun _ h => h) rfl (by decide +kernel) rfl rfl (Nat.le_of_ble_eq_true rfl) dX0_init_21 (fun H locs hP hD hS => ?_)
  have hP : va_P g.1 vwCl [(h0, .inr (2, [.int 0, .int 0, .int 0, .ref q1, .int 1, .int 0, .int 1000])), (q1, .inl (g.2 0, 10, .inl z0))] H := hP
  have hD : va_D A [(h0, .inr (2, [.int 0, .int 0, .int 0, .ref q1, .int 1, .int 0, .int 1000])), (q1, .inl (g.2 0, 10, .inl z0))] := hD
  refine lv_aload_n hx hb dX0_init_24 rfl (lv_at hl 0 rfl) ?_
  refine lv_iload_n hx hb dX0_init_25 rfl (lv_at hl 1 rfl) ?_
  refine va_putF (D := g.1) (ci := 2) (v := .int number) (ty := .int) (C := RX2) (T := TX2) (N := 7) hx hb hts hi_X0_init_X2 tyX2 tyX2_ok nmX2 hown hK hP hD hS 0 rfl rfl 0 (by decide) (hts (.fieldLink RX0 22 "OilPush$Cylinder" "number" "I") (by decide +kernel)) (fun _ h => h) rfl hin rfl (by decide +kernel) rfl rfl (Nat.le_of_ble_eq_true rfl) dX0_init_26 (fun H locs hP hD hS => ?_)
  have hP : va_P g.1 vwCl [(h0, .inr (2, [.int number, .int 0, .int 0, .ref q1, .int 1, .int 0, .int 1000])), (q1, .inl (g.2 0, 10, .inl z0))] H := hP
  have hD : va_D A [(h0, .inr (2, [.int number, .int 0, .int 0, .ref q1, .int 1, .int 0, .int 1000])), (q1, .inl (g.2 0, 10, .inl z0))] := hD
  refine lv_aload_n hx hb dX0_init_29 rfl (lv_at hl 0 rfl) ?_
  refine lv_iload_n hx hb dX0_init_30 rfl (lv_at hl 2 rfl) ?_
  refine va_putF (D := g.1) (ci := 2) (v := .int area) (ty := .int) (C := RX2) (T := TX2) (N := 7) hx hb hts hi_X0_init_X2 tyX2 tyX2_ok nmX2 hown hK hP hD hS 0 rfl rfl 1 (by decide) (hts (.fieldLink RX0 25 "OilPush$Cylinder" "area" "I") (by decide +kernel)) (fun _ h => h) rfl hin rfl (by decide +kernel) rfl rfl (Nat.le_of_ble_eq_true rfl) dX0_init_31 (fun H locs hP hD hS => ?_)
  have hP : va_P g.1 vwCl [(h0, .inr (2, [.int number, .int area, .int 0, .ref q1, .int 1, .int 0, .int 1000])), (q1, .inl (g.2 0, 10, .inl z0))] H := hP
  have hD : va_D A [(h0, .inr (2, [.int number, .int area, .int 0, .ref q1, .int 1, .int 0, .int 1000])), (q1, .inl (g.2 0, 10, .inl z0))] := hD
  refine lv_aload_n hx hb dX0_init_34 rfl (lv_at hl 0 rfl) ?_
  refine lv_iload_n hx hb dX0_init_35 rfl (lv_at hl 3 rfl) ?_
  refine va_putF (D := g.1) (ci := 2) (v := .int stroke) (ty := .int) (C := RX2) (T := TX2) (N := 7) hx hb hts hi_X0_init_X2 tyX2 tyX2_ok nmX2 hown hK hP hD hS 0 rfl rfl 2 (by decide) (hts (.fieldLink RX0 28 "OilPush$Cylinder" "stroke" "I") (by decide +kernel)) (fun _ h => h) rfl hin rfl (by decide +kernel) rfl rfl (Nat.le_of_ble_eq_true rfl) dX0_init_36 (fun H locs hP hD hS => ?_)
  have hP : va_P g.1 vwCl [(h0, .inr (2, [.int number, .int area, .int stroke, .ref q1, .int 1, .int 0, .int 1000])), (q1, .inl (g.2 0, 10, .inl z0))] H := hP
  have hD : va_D A [(h0, .inr (2, [.int number, .int area, .int stroke, .ref q1, .int 1, .int 0, .int 1000])), (q1, .inl (g.2 0, 10, .inl z0))] := hD
  exact retV C hS (fun k => ([q1] : List Nat).getD k 0) trivial (hP.pick [0, 1] rfl) (hD.sub [0, 1] rfl rfl) (Nat.le_of_ble_eq_true rfl) (Nat.le_of_ble_eq_true rfl) dX0_init_39
theorem hi_X0_init_X10 : ∀ w ∈ wsX100, w ∈ wsX0_init := fun w h => List.mem_cons_of_mem _ (List.mem_append_right _ h)
set_option maxRecDepth 100000 in
set_option maxHeartbeats 4000000 in
theorem c_X0_init_X10 (l : Launch) (g : Gt) (h0 : Nat) (number : Int32) (area : Int32) (stroke : Int32)  : Ctr l g yX0_init wsX0_init ({ frames := 1, cells := 1, slots := 10, locals := 12 } : Room) [.ref h0, .int number, .int area, .int stroke] [(h0, .inr (10, [.int 0, .int 0, .int 0, .null, .int 0, .int 0, .int 0]))] (fun A => QV g A (fun _ : Nat → Nat => True) (fun u => [(h0, .inr (10, [.int number, .int area, .int stroke, .ref (u 0), .int 1, .int 0, .int 1000])), ((u 0), .inl (g.2 0, 10, .inl z0))])) := by
  refine Ctr.of (cc := cX0_init) (maxL := 4) (ret := none) (by decide) rfl (Nat.le_of_ble_eq_true rfl) ?_
  intro p e s m below meth c A ls H C hP hD hA hS hl
  obtain ⟨hx, hb, hr, hts, hown, hlocks, hml, hin, hKN⟩ := id C
  have hK := hKN.1
  have hN := hKN.2
  have F : CallFix p m c cX0_init 4 s _ wsX0_init yX0_init.cls := ⟨hx, hb, hml, hown, hts⟩
  have hin : meth.name = "<init>" := hin rfl
  have hl : lv_has ls 4 [(0, .ref h0), (1, .int number), (2, .int area), (3, .int stroke)] := hl
  refine lv_aload_n hx hb dX0_init_0 rfl (lv_at hl 0 rfl) ?_
  refine W.objInit hx hb hown (hts (.methodLink RX0 3 objectInit) (by decide +kernel)) (hts (.instanceMethod objectInit) (by decide +kernel)) (hts (.code objectInit ⟨#[0xb1]⟩ 1 none) (oi_X0_init)) rfl (by rw [hml]; exact hl.1) rfl dX0_init_1 (Nat.le_of_ble_eq_true rfl) (Nat.le_of_ble_eq_true rfl) ?_
  refine W.eq (g2 := F0 m 4 ls []) rfl ?_
  refine lv_aload_n hx hb dX0_init_4 rfl (lv_at hl 0 rfl) ?_
  refine lv_bipush (v := 10) hx hb dX0_init_5 (by decide) ?_
  refine newG (ty := .int) (a0 := (10, .inl z0)) 0 rfl (fun _ h => h) C (by decide +kernel) rfl hP hD hS hA (fun _ => rfl) (by decide) (N' := 10) (by decide) (by decide) (Nat.le_of_ble_eq_true rfl) (Nat.le_of_ble_eq_true rfl) dX0_init_7 (fun q1 H hP hD hS => ?_)
  refine W.widen (k := 1) (n := 10) (Nat.le_of_ble_eq_true rfl) (Nat.le_of_ble_eq_true rfl) ?_
  have hP : va_P g.1 vwCl [(h0, .inr (10, [.int 0, .int 0, .int 0, .null, .int 0, .int 0, .int 0])), (q1, .inl (g.2 0, 10, .inl z0))] H := hP
  have hD : va_D A [(h0, .inr (10, [.int 0, .int 0, .int 0, .null, .int 0, .int 0, .int 0])), (q1, .inl (g.2 0, 10, .inl z0))] := hD
  refine va_putF (D := g.1) (ci := 10) (v := .ref q1) (ty := .array .int) (C := RX10) (T := TX10) (N := 7) hx hb hts hi_X0_init_X10 tyX10 tyX10_ok nmX10 hown hK hP hD hS 0 rfl rfl 3 (by decide) (hts (.fieldLink RX0 9 "OilPush$Cylinder" "loads" "[I") (by decide +kernel)) (fun _ h => h) rfl hin rfl (by decide +kernel) rfl rfl (Nat.le_of_ble_eq_true rfl) dX0_init_9 (fun H locs hP hD hS => ?_)
  have hP : va_P g.1 vwCl [(h0, .inr (10, [.int 0, .int 0, .int 0, .ref q1, .int 0, .int 0, .int 0])), (q1, .inl (g.2 0, 10, .inl z0))] H := hP
  have hD : va_D A [(h0, .inr (10, [.int 0, .int 0, .int 0, .ref q1, .int 0, .int 0, .int 0])), (q1, .inl (g.2 0, 10, .inl z0))] := hD
  refine lv_aload_n hx hb dX0_init_12 rfl (lv_at hl 0 rfl) ?_
  refine lv_iconst (v := 1) hx hb dX0_init_13 (by decide) ?_
  refine va_put (D := g.1) (ci := 10) (v := .int 1) (ty := .int) (C := RX10) (T := TX10) (N := 7) hx hb hts hi_X0_init_X10 tyX10 tyX10_ok nmX10 hown hK hP hD hS 0 rfl rfl 4 (by decide) (hts (.fieldLink RX0 15 "OilPush$Cylinder" "loadCount" "I") (by decide +kernel)) (fun _ h => h) rfl (by decide +kernel) rfl rfl (Nat.le_of_ble_eq_true rfl) dX0_init_14 (fun H locs hP hD hS => ?_)
  have hP : va_P g.1 vwCl [(h0, .inr (10, [.int 0, .int 0, .int 0, .ref q1, .int 1, .int 0, .int 0])), (q1, .inl (g.2 0, 10, .inl z0))] H := hP
  have hD : va_D A [(h0, .inr (10, [.int 0, .int 0, .int 0, .ref q1, .int 1, .int 0, .int 0])), (q1, .inl (g.2 0, 10, .inl z0))] := hD
  refine lv_aload_n hx hb dX0_init_17 rfl (lv_at hl 0 rfl) ?_
  refine lv_sipush (v := 1000) hx hb dX0_init_18 (by decide) ?_
  refine va_put (D := g.1) (ci := 10) (v := .int 1000) (ty := .int) (C := RX10) (T := TX10) (N := 7) hx hb hts hi_X0_init_X10 tyX10 tyX10_ok nmX10 hown hK hP hD hS 0 rfl rfl 6 (by decide) (hts (.fieldLink RX0 19 "OilPush$Cylinder" "flow" "I") (by decide +kernel)) (fun _ h => h) rfl (by decide +kernel) rfl rfl (Nat.le_of_ble_eq_true rfl) dX0_init_21 (fun H locs hP hD hS => ?_)
  have hP : va_P g.1 vwCl [(h0, .inr (10, [.int 0, .int 0, .int 0, .ref q1, .int 1, .int 0, .int 1000])), (q1, .inl (g.2 0, 10, .inl z0))] H := hP
  have hD : va_D A [(h0, .inr (10, [.int 0, .int 0, .int 0, .ref q1, .int 1, .int 0, .int 1000])), (q1, .inl (g.2 0, 10, .inl z0))] := hD
  refine lv_aload_n hx hb dX0_init_24 rfl (lv_at hl 0 rfl) ?_
  refine lv_iload_n hx hb dX0_init_25 rfl (lv_at hl 1 rfl) ?_
  refine va_putF (D := g.1) (ci := 10) (v := .int number) (ty := .int) (C := RX10) (T := TX10) (N := 7) hx hb hts hi_X0_init_X10 tyX10 tyX10_ok nmX10 hown hK hP hD hS 0 rfl rfl 0 (by decide) (hts (.fieldLink RX0 22 "OilPush$Cylinder" "number" "I") (by decide +kernel)) (fun _ h => h) rfl hin rfl (by decide +kernel) rfl rfl (Nat.le_of_ble_eq_true rfl) dX0_init_26 (fun H locs hP hD hS => ?_)
  have hP : va_P g.1 vwCl [(h0, .inr (10, [.int number, .int 0, .int 0, .ref q1, .int 1, .int 0, .int 1000])), (q1, .inl (g.2 0, 10, .inl z0))] H := hP
  have hD : va_D A [(h0, .inr (10, [.int number, .int 0, .int 0, .ref q1, .int 1, .int 0, .int 1000])), (q1, .inl (g.2 0, 10, .inl z0))] := hD
  refine lv_aload_n hx hb dX0_init_29 rfl (lv_at hl 0 rfl) ?_
  refine lv_iload_n hx hb dX0_init_30 rfl (lv_at hl 2 rfl) ?_
  refine va_putF (D := g.1) (ci := 10) (v := .int area) (ty := .int) (C := RX10) (T := TX10) (N := 7) hx hb hts hi_X0_init_X10 tyX10 tyX10_ok nmX10 hown hK hP hD hS 0 rfl rfl 1 (by decide) (hts (.fieldLink RX0 25 "OilPush$Cylinder" "area" "I") (by decide +kernel)) (fun _ h => h) rfl hin rfl (by decide +kernel) rfl rfl (Nat.le_of_ble_eq_true rfl) dX0_init_31 (fun H locs hP hD hS => ?_)
  have hP : va_P g.1 vwCl [(h0, .inr (10, [.int number, .int area, .int 0, .ref q1, .int 1, .int 0, .int 1000])), (q1, .inl (g.2 0, 10, .inl z0))] H := hP
  have hD : va_D A [(h0, .inr (10, [.int number, .int area, .int 0, .ref q1, .int 1, .int 0, .int 1000])), (q1, .inl (g.2 0, 10, .inl z0))] := hD
  refine lv_aload_n hx hb dX0_init_34 rfl (lv_at hl 0 rfl) ?_
  refine lv_iload_n hx hb dX0_init_35 rfl (lv_at hl 3 rfl) ?_
  refine va_putF (D := g.1) (ci := 10) (v := .int stroke) (ty := .int) (C := RX10) (T := TX10) (N := 7) hx hb hts hi_X0_init_X10 tyX10 tyX10_ok nmX10 hown hK hP hD hS 0 rfl rfl 2 (by decide) (hts (.fieldLink RX0 28 "OilPush$Cylinder" "stroke" "I") (by decide +kernel)) (fun _ h => h) rfl hin rfl (by decide +kernel) rfl rfl (Nat.le_of_ble_eq_true rfl) dX0_init_36 (fun H locs hP hD hS => ?_)
  have hP : va_P g.1 vwCl [(h0, .inr (10, [.int number, .int area, .int stroke, .ref q1, .int 1, .int 0, .int 1000])), (q1, .inl (g.2 0, 10, .inl z0))] H := hP
  have hD : va_D A [(h0, .inr (10, [.int number, .int area, .int stroke, .ref q1, .int 1, .int 0, .int 1000])), (q1, .inl (g.2 0, 10, .inl z0))] := hD
  exact retV C hS (fun k => ([q1] : List Nat).getD k 0) trivial (hP.pick [0, 1] rfl) (hD.sub [0, 1] rfl rfl) (Nat.le_of_ble_eq_true rfl) (Nat.le_of_ble_eq_true rfl) dX0_init_39
set_option maxRecDepth 100000 in
set_option maxHeartbeats 4000000 in
theorem c_X2_init_X2 (l : Launch) (g : Gt) (h0 : Nat) (number : Int32) (area : Int32) (stroke : Int32)  : Ctr l g yX2_init wsX2_init ({ frames := 2, cells := 1, slots := 10, locals := 35 } : Room) [.ref h0, .int number, .int area, .int stroke] [(h0, .inr (2, [.int 0, .int 0, .int 0, .null, .int 0, .int 0, .int 0]))] (fun A => QV g A (fun _ : Nat → Nat => True) (fun u => [(h0, .inr (2, [.int number, .int area, .int stroke, .ref (u 0), .int 1, .int 0, .int 1000])), ((u 0), .inl (g.2 0, 10, .inl z0))])) := by
  refine Ctr.of (cc := cX2_init) (maxL := 4) (ret := none) (by decide) rfl (Nat.le_of_ble_eq_true rfl) ?_
  intro p e s m below meth c A ls H C hP hD hA hS hl
  obtain ⟨hx, hb, hr, hts, hown, hlocks, hml, hin, hKN⟩ := id C
  have hK := hKN.1
  have hN := hKN.2
  have F : CallFix p m c cX2_init 4 s _ wsX2_init yX2_init.cls := ⟨hx, hb, hml, hown, hts⟩
  have hin : meth.name = "<init>" := hin rfl
  have hl : lv_has ls 4 [(0, .ref h0), (1, .int number), (2, .int area), (3, .int stroke)] := hl
  refine lv_aload_n hx hb dX2_init_0 rfl (lv_at hl 0 rfl) ?_
  refine lv_iload_n hx hb dX2_init_1 rfl (lv_at hl 1 rfl) ?_
  refine lv_iload_n hx hb dX2_init_2 rfl (lv_at hl 2 rfl) ?_
  refine lv_iload_n hx hb dX2_init_3 rfl (lv_at hl 3 rfl) ?_
  refine callVI (As := [.int number, .int area, .int stroke]) (rest := []) (wr := []) C (c_X0_init_X2 l g h0 number area stroke) 3 gX2_init_X0_init rfl (by decide +kernel) (by decide +kernel) (by decide +kernel) rfl (by decide +kernel) ⟨(Nat.le_of_ble_eq_true rfl), (Nat.le_of_ble_eq_true rfl)⟩ [0] [] hP hD hA hS rfl rfl rfl rfl (by decide) rfl hl.1 rfl (Nat.le_of_ble_eq_true rfl) dX2_init_4 ⟨(Nat.le_of_ble_eq_true rfl), (Nat.le_of_ble_eq_true rfl)⟩ (fun u1 H locs hw hP hD hS => ?_)
  refine W.widen (k := 1) (n := 10) (Nat.le_of_ble_eq_true rfl) (Nat.le_of_ble_eq_true rfl) ?_
  have hP : va_P g.1 vwCl [(h0, .inr (2, [.int number, .int area, .int stroke, .ref (u1 0), .int 1, .int 0, .int 1000])), ((u1 0), .inl (g.2 0, 10, .inl z0))] H := hP
  have hD : va_D A [(h0, .inr (2, [.int number, .int area, .int stroke, .ref (u1 0), .int 1, .int 0, .int 1000])), ((u1 0), .inl (g.2 0, 10, .inl z0))] := hD
  exact retV C hS (fun k => ([(u1 0)] : List Nat).getD k 0) trivial (hP.pick [0, 1] rfl) (hD.sub [0, 1] rfl rfl) (Nat.le_of_ble_eq_true rfl) (Nat.le_of_ble_eq_true rfl) dX2_init_7
set_option maxRecDepth 100000 in
set_option maxHeartbeats 4000000 in
theorem c_X2_init_X10 (l : Launch) (g : Gt) (h0 : Nat) (number : Int32) (area : Int32) (stroke : Int32)  : Ctr l g yX2_init wsX2_init ({ frames := 2, cells := 1, slots := 10, locals := 35 } : Room) [.ref h0, .int number, .int area, .int stroke] [(h0, .inr (10, [.int 0, .int 0, .int 0, .null, .int 0, .int 0, .int 0]))] (fun A => QV g A (fun _ : Nat → Nat => True) (fun u => [(h0, .inr (10, [.int number, .int area, .int stroke, .ref (u 0), .int 1, .int 0, .int 1000])), ((u 0), .inl (g.2 0, 10, .inl z0))])) := by
  refine Ctr.of (cc := cX2_init) (maxL := 4) (ret := none) (by decide) rfl (Nat.le_of_ble_eq_true rfl) ?_
  intro p e s m below meth c A ls H C hP hD hA hS hl
  obtain ⟨hx, hb, hr, hts, hown, hlocks, hml, hin, hKN⟩ := id C
  have hK := hKN.1
  have hN := hKN.2
  have F : CallFix p m c cX2_init 4 s _ wsX2_init yX2_init.cls := ⟨hx, hb, hml, hown, hts⟩
  have hin : meth.name = "<init>" := hin rfl
  have hl : lv_has ls 4 [(0, .ref h0), (1, .int number), (2, .int area), (3, .int stroke)] := hl
  refine lv_aload_n hx hb dX2_init_0 rfl (lv_at hl 0 rfl) ?_
  refine lv_iload_n hx hb dX2_init_1 rfl (lv_at hl 1 rfl) ?_
  refine lv_iload_n hx hb dX2_init_2 rfl (lv_at hl 2 rfl) ?_
  refine lv_iload_n hx hb dX2_init_3 rfl (lv_at hl 3 rfl) ?_
  refine callVI (As := [.int number, .int area, .int stroke]) (rest := []) (wr := []) C (c_X0_init_X10 l g h0 number area stroke) 3 gX2_init_X0_init rfl (by decide +kernel) (by decide +kernel) (by decide +kernel) rfl (by decide +kernel) ⟨(Nat.le_of_ble_eq_true rfl), (Nat.le_of_ble_eq_true rfl)⟩ [0] [] hP hD hA hS rfl rfl rfl rfl (by decide) rfl hl.1 rfl (Nat.le_of_ble_eq_true rfl) dX2_init_4 ⟨(Nat.le_of_ble_eq_true rfl), (Nat.le_of_ble_eq_true rfl)⟩ (fun u1 H locs hw hP hD hS => ?_)
  refine W.widen (k := 1) (n := 10) (Nat.le_of_ble_eq_true rfl) (Nat.le_of_ble_eq_true rfl) ?_
  have hP : va_P g.1 vwCl [(h0, .inr (10, [.int number, .int area, .int stroke, .ref (u1 0), .int 1, .int 0, .int 1000])), ((u1 0), .inl (g.2 0, 10, .inl z0))] H := hP
  have hD : va_D A [(h0, .inr (10, [.int number, .int area, .int stroke, .ref (u1 0), .int 1, .int 0, .int 1000])), ((u1 0), .inl (g.2 0, 10, .inl z0))] := hD
  exact retV C hS (fun k => ([(u1 0)] : List Nat).getD k 0) trivial (hP.pick [0, 1] rfl) (hD.sub [0, 1] rfl rfl) (Nat.le_of_ble_eq_true rfl) (Nat.le_of_ble_eq_true rfl) dX2_init_7
set_option maxRecDepth 100000 in
set_option maxHeartbeats 4000000 in
theorem c_X10_init (l : Launch) (g : Gt) (h0 : Nat) (number : Int32) (area : Int32) (stroke : Int32)  : Ctr l g yX10_init wsX10_init ({ frames := 3, cells := 1, slots := 10, locals := 58 } : Room) [.ref h0, .int number, .int area, .int stroke] [(h0, .inr (10, [.int 0, .int 0, .int 0, .null, .int 0, .int 0, .int 0]))] (fun A => QV g A (fun _ : Nat → Nat => True) (fun u => [(h0, .inr (10, [.int number, .int area, .int stroke, .ref (u 0), .int 1, .int 0, .int 1000])), ((u 0), .inl (g.2 0, 10, .inl z0))])) := by
  refine Ctr.of (cc := cX10_init) (maxL := 4) (ret := none) (by decide) rfl (Nat.le_of_ble_eq_true rfl) ?_
  intro p e s m below meth c A ls H C hP hD hA hS hl
  obtain ⟨hx, hb, hr, hts, hown, hlocks, hml, hin, hKN⟩ := id C
  have hK := hKN.1
  have hN := hKN.2
  have F : CallFix p m c cX10_init 4 s _ wsX10_init yX10_init.cls := ⟨hx, hb, hml, hown, hts⟩
  have hin : meth.name = "<init>" := hin rfl
  have hl : lv_has ls 4 [(0, .ref h0), (1, .int number), (2, .int area), (3, .int stroke)] := hl
  refine lv_aload_n hx hb dX10_init_0 rfl (lv_at hl 0 rfl) ?_
  refine lv_iload_n hx hb dX10_init_1 rfl (lv_at hl 1 rfl) ?_
  refine lv_iload_n hx hb dX10_init_2 rfl (lv_at hl 2 rfl) ?_
  refine lv_iload_n hx hb dX10_init_3 rfl (lv_at hl 3 rfl) ?_
  refine callVI (As := [.int number, .int area, .int stroke]) (rest := []) (wr := []) C (c_X2_init_X10 l g h0 number area stroke) 3 gX10_init_X2_init rfl (by decide +kernel) (by decide +kernel) (by decide +kernel) rfl (by decide +kernel) ⟨(Nat.le_of_ble_eq_true rfl), (Nat.le_of_ble_eq_true rfl)⟩ [0] [] hP hD hA hS rfl rfl rfl rfl (by decide) rfl hl.1 rfl (Nat.le_of_ble_eq_true rfl) dX10_init_4 ⟨(Nat.le_of_ble_eq_true rfl), (Nat.le_of_ble_eq_true rfl)⟩ (fun u1 H locs hw hP hD hS => ?_)
  refine W.widen (k := 1) (n := 10) (Nat.le_of_ble_eq_true rfl) (Nat.le_of_ble_eq_true rfl) ?_
  have hP : va_P g.1 vwCl [(h0, .inr (10, [.int number, .int area, .int stroke, .ref (u1 0), .int 1, .int 0, .int 1000])), ((u1 0), .inl (g.2 0, 10, .inl z0))] H := hP
  have hD : va_D A [(h0, .inr (10, [.int number, .int area, .int stroke, .ref (u1 0), .int 1, .int 0, .int 1000])), ((u1 0), .inl (g.2 0, 10, .inl z0))] := hD
  exact retV C hS (fun k => ([(u1 0)] : List Nat).getD k 0) trivial (hP.pick [0, 1] rfl) (hD.sub [0, 1] rfl rfl) (Nat.le_of_ble_eq_true rfl) (Nat.le_of_ble_eq_true rfl) dX10_init_7
