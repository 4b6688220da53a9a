set_option maxRecDepth 100000 in
set_option maxHeartbeats 4000000 in
theorem e_drain0 (l : Launch) (g : Gt) (ea : Nat) (et : Nat) (el : Nat) (en : Nat) (em : Nat) (ek : Nat) (mov : Int32) (tks : Int32) (prs : Int32) (ovr : Int32) (stk : Int32) (ht : Int64) (wk : Int64) (gn : Int64) (sa : Nat) (lka : Nat)  : Ctr l g yX1_drain wsX1_drain ({ frames := 0, cells := 0, slots := 0, locals := 0 } : Room) [.ref ea, .null, .ref sa, .ref lka] [(ea, .inr (1, [.ref et, .ref el, .int mov, .ref en, .ref em, .ref ek, .int tks, .int prs, .int ovr, .int stk, .long ht, .long wk, .long gn]))] (fun A => QI g A (fun r (u : Unit) => (r = 0)) (fun (u : Unit) => [(ea, .inr (1, [.ref et, .ref el, .int mov, .ref en, .ref em, .ref ek, .int tks, .int prs, .int ovr, .int stk, .long ht, .long wk, .long gn]))])) := by
  refine Ctr.of (cc := cX1_drain) (maxL := 6) (ret := (some .int)) (by decide) rfl (Nat.le_of_ble_eq_true rfl) ?_
  intro p e s m below meth c A ls H C hP hD hA hS hl
  obtain ⟨hx, hb, hr, hts, hown, hlocks, hml, hin, hKN⟩ := id C
  have hK := hKN.1
  have hN := hKN.2
  have F : CallFix p m c cX1_drain 6 s _ wsX1_drain yX1_drain.cls := ⟨hx, hb, hml, hown, hts⟩
  have hl : lv_has ls 6 [(0, .ref ea), (1, .null), (2, .ref sa), (3, .ref lka)] := hl
  refine lv_aload_nN hx hb dX1_drain_0 rfl (lv_at hl 1 rfl) ?_
  refine lv_ifnonnullN hx hb dX1_drain_1 ?_
  refine lv_iconst (v := 0) hx hb dX1_drain_4 (by decide) ?_
  exact retI C hS () rfl hP hD (Nat.le_of_ble_eq_true rfl) (Nat.le_of_ble_eq_true rfl) dX1_drain_5
theorem hc_X1_drain_X0 : ∀ w ∈ wsX00, w ∈ wsX1_drain := fun w h => List.mem_cons_of_mem _ (List.mem_append_left _ (List.mem_append_left _ (List.mem_append_right _ h)))
theorem hc_X1_drain_X10 : ∀ w ∈ wsX100, w ∈ wsX1_drain := fun w h => List.mem_cons_of_mem _ (List.mem_append_right _ h)
theorem hc_X1_drain_X2 : ∀ w ∈ wsX20, w ∈ wsX1_drain := fun w h => List.mem_cons_of_mem _ (List.mem_append_left _ (List.mem_append_right _ h))
theorem hc_X1_drain_X7 : ∀ w ∈ wsX70, w ∈ wsX1_drain := fun w h => List.mem_cons_of_mem _ (List.mem_append_left _ (List.mem_append_left _ (List.mem_append_left _ (List.mem_append_right _ h))))
theorem hc_X1_lineUp_X0 : ∀ w ∈ wsX00, w ∈ wsX1_lineUp := fun w h => List.mem_cons_of_mem _ (List.mem_append_left _ (List.mem_append_left _ (List.mem_append_right _ h)))
theorem hc_X1_lineUp_X1 : ∀ w ∈ wsX10, w ∈ wsX1_lineUp := fun w h => List.mem_cons_of_mem _ (List.mem_append_left _ (List.mem_append_left _ (List.mem_append_left _ (List.mem_append_left _ (List.mem_append_left _ (List.mem_append_right _ h))))))
theorem hc_X1_lineUp_X10 : ∀ w ∈ wsX100, w ∈ wsX1_lineUp := fun w h => List.mem_cons_of_mem _ (List.mem_append_right _ h)
theorem hc_X1_lineUp_X2 : ∀ w ∈ wsX20, w ∈ wsX1_lineUp := fun w h => List.mem_cons_of_mem _ (List.mem_append_left _ (List.mem_append_right _ h))
theorem hc_X1_lineUp_X4 : ∀ w ∈ wsX40, w ∈ wsX1_lineUp := fun w h => List.mem_cons_of_mem _ (List.mem_append_left _ (List.mem_append_left _ (List.mem_append_left _ (List.mem_append_left _ (List.mem_append_right _ h)))))
theorem hc_X1_lineUp_X7 : ∀ w ∈ wsX70, w ∈ wsX1_lineUp := fun w h => List.mem_cons_of_mem _ (List.mem_append_left _ (List.mem_append_left _ (List.mem_append_left _ (List.mem_append_right _ h))))
theorem hc_X1_run_X1 : ∀ w ∈ wsX10, w ∈ wsX1_run := fun w h => List.mem_cons_of_mem _ (List.mem_append_left _ (List.mem_append_left _ (List.mem_append_left _ (List.mem_append_left _ (List.mem_append_left _ (List.mem_append_left _ (List.mem_append_right _ h)))))))
theorem hc_X1_run_X4 : ∀ w ∈ wsX40, w ∈ wsX1_run := fun w h => List.mem_cons_of_mem _ (List.mem_append_left _ (List.mem_append_left _ (List.mem_append_left _ (List.mem_append_left _ (List.mem_append_left _ (List.mem_append_right _ h))))))
theorem hc_X1_run_X7 : ∀ w ∈ wsX70, w ∈ wsX1_run := fun w h => List.mem_cons_of_mem _ (List.mem_append_left _ (List.mem_append_left _ (List.mem_append_left _ (List.mem_append_left _ (List.mem_append_right _ h)))))
theorem hc_X1_run_X8 : ∀ w ∈ wsX80, w ∈ wsX1_run := fun w h => List.mem_cons_of_mem _ (List.mem_append_left _ (List.mem_append_left _ (List.mem_append_left _ (List.mem_append_right _ h))))
theorem hc_X3_obey_X0 : ∀ w ∈ wsX00, w ∈ wsX3_obey := fun w h => List.mem_cons_of_mem _ (List.mem_append_left _ (List.mem_append_left _ (List.mem_append_left _ (List.mem_append_right _ h))))
theorem hc_X3_obey_X10 : ∀ w ∈ wsX100, w ∈ wsX3_obey := fun w h => List.mem_cons_of_mem _ (List.mem_append_left _ (List.mem_append_right _ h))
theorem hc_X3_obey_X2 : ∀ w ∈ wsX20, w ∈ wsX3_obey := fun w h => List.mem_cons_of_mem _ (List.mem_append_left _ (List.mem_append_left _ (List.mem_append_right _ h)))
theorem hc_X3_obey_X3 : ∀ w ∈ wsX30, w ∈ wsX3_obey := fun w h => List.mem_cons_of_mem _ (List.mem_append_left _ (List.mem_append_left _ (List.mem_append_left _ (List.mem_append_left _ (List.mem_append_right _ h)))))
theorem hc_X3_obey_X7 : ∀ w ∈ wsX70, w ∈ wsX3_obey := fun w h => List.mem_cons_of_mem _ (List.mem_append_left _ (List.mem_append_left _ (List.mem_append_left _ (List.mem_append_left _ (List.mem_append_left _ (List.mem_append_right _ h))))))
theorem hc_X5_areToldAt_X5 : ∀ w ∈ wsX50, w ∈ wsX5_areToldAt := fun w h => List.mem_cons_of_mem _ (List.mem_append_left _ (List.mem_append_right _ h))
theorem hc_X5_areToldAt_X7 : ∀ w ∈ wsX70, w ∈ wsX5_areToldAt := fun w h => List.mem_cons_of_mem _ (List.mem_append_right _ h)
set_option maxRecDepth 100000 in
set_option maxHeartbeats 4000000 in
theorem r_told (l : Launch) (g : Gt) (ra : Nat) (rt : Nat) (ro : Nat) (rx : Nat) (rc : Int32) (frt : Nat → Int32) (fro : Nat → Int32) (frx : Nat → Int32) (tt : Int32) (sa : Nat) (so : Nat) (sv : Nat) (sb : Nat) (ss : Nat) (wt : Int32) (fo : Nat → Int32)  : Ctr l g yX5_areToldAt wsX5_areToldAt ({ frames := 1, cells := 0, slots := 0, locals := 21 } : Room) [.ref ra, .int tt, .ref sa] [(ra, .inr (5, [.ref rt, .ref ro, .ref rx, .int rc])), (rt, .inl (g.2 0, 20, .inl frt)), (ro, .inl (g.2 0, 20, .inl fro)), (rx, .inl (g.2 0, 20, .inl frx)), (sa, .inr (7, [.ref so, .ref sv, .ref sb, .ref ss, .int wt])), (so, .inl (g.2 0, 6, .inl fo))] (fun A => QI g A (fun r (u : Unit) => (r = 0 ∨ r = 1)) (fun (u : Unit) => [(ra, .inr (5, [.ref rt, .ref ro, .ref rx, .int rc])), (rt, .inl (g.2 0, 20, .inl frt)), (ro, .inl (g.2 0, 20, .inl fro)), (rx, .inl (g.2 0, 20, .inl frx)), (sa, .inr (7, [.ref so, .ref sv, .ref sb, .ref ss, .int wt])), (so, .inl (g.2 0, 6, .inl fo))])) := by
  refine Ctr.of (cc := cX5_areToldAt) (maxL := 4) (ret := (some .boolean)) (by decide) rfl (Nat.le_of_ble_eq_true rfl) ?_
  intro p e s m below meth c A ls H C hP hD hA hS hl
  obtain ⟨hx, hb, hr, hts, hown, hlocks, hml, hin, hKN⟩ := id C
  have hK := hKN.1
  have hN := hKN.2
  have F : CallFix p m c cX5_areToldAt 4 s _ wsX5_areToldAt yX5_areToldAt.cls := ⟨hx, hb, hml, hown, hts⟩
  have hl : lv_has ls 4 [(0, .ref ra), (1, .int tt), (2, .ref sa)] := hl
  refine lv_iconst (v := 0) hx hb dX5_areToldAt_0 (by decide) ?_
  refine lv_istore_n (lv' := [(3, .int 0), (0, .ref ra), (1, .int tt), (2, .ref sa)]) hx hb dX5_areToldAt_1 rfl hl (by decide) rfl (fun ls hl => ?_)
  refine W.loop (α := Int32) (P := fun z ls H locs => lv_has ls 4 [(3, .int z), (0, .ref ra), (1, .int tt), (2, .ref sa)] ∧ va_P g.1 vwCl [(ra, .inr (5, [.ref rt, .ref ro, .ref rx, .int rc])), (rt, .inl (g.2 0, 20, .inl frt)), (ro, .inl (g.2 0, 20, .inl fro)), (rx, .inl (g.2 0, 20, .inl frx)), (sa, .inr (7, [.ref so, .ref sv, .ref sb, .ref ss, .int wt])), (so, .inl (g.2 0, 6, .inl fo))] H ∧ va_D A [(ra, .inr (5, [.ref rt, .ref ro, .ref rx, .int rc])), (rt, .inl (g.2 0, 20, .inl frt)), (ro, .inl (g.2 0, 20, .inl fro)), (rx, .inl (g.2 0, 20, .inl frx)), (sa, .inr (7, [.ref so, .ref sv, .ref sb, .ref ss, .int wt])), (so, .inl (g.2 0, 6, .inl fo))] ∧ va_S A s.heap H locs) (μ := fun z => (rc.toInt - (z).toInt).toNat) 0 ⟨hl, hP, hD, hS⟩ (fun z ls H locs hh ih2 => ?_)
  obtain ⟨l3_2, rfl⟩ : ∃ x, x = z := ⟨z, rfl⟩
  try dsimp only at hh ih2
  obtain ⟨hl, hP, hD, hS⟩ := hh
  have hl : lv_has ls 4 [(3, .int l3_2), (0, .ref ra), (1, .int tt), (2, .ref sa)] := hl
  replace hP : va_P g.1 vwCl [(ra, .inr (5, [.ref rt, .ref ro, .ref rx, .int rc])), (rt, .inl (g.2 0, 20, .inl frt)), (ro, .inl (g.2 0, 20, .inl fro)), (rx, .inl (g.2 0, 20, .inl frx)), (sa, .inr (7, [.ref so, .ref sv, .ref sb, .ref ss, .int wt])), (so, .inl (g.2 0, 6, .inl fo))] H := hP
  replace hD : va_D A [(ra, .inr (5, [.ref rt, .ref ro, .ref rx, .int rc])), (rt, .inl (g.2 0, 20, .inl frt)), (ro, .inl (g.2 0, 20, .inl fro)), (rx, .inl (g.2 0, 20, .inl frx)), (sa, .inr (7, [.ref so, .ref sv, .ref sb, .ref ss, .int wt])), (so, .inl (g.2 0, 6, .inl fo))] := hD
  refine lv_iload_n hx hb dX5_areToldAt_2 rfl (lv_at hl 0 rfl) ?_
  refine lv_aload_n hx hb dX5_areToldAt_3 rfl (lv_at hl 1 rfl) ?_
  refine va_get (D := g.1) (ci := 5) (v := .int rc) (C := RX5) (T := TX5) (N := 4) hx hb hts hc_X5_areToldAt_X5 hown hK hP 0 rfl rfl 3 (by decide) (hts (.fieldLink RX5 21 "OilPush$Readings" "count" "I") (List.mem_of_getElem? (i := 1) rfl)) (fun _ h => h) rfl dX5_areToldAt_4 ?_
  refine lv_icmp_ge (tgt := 56) hx hb dX5_areToldAt_7 (by decide) (fun c1 => ?_) (fun c1 => ?_)
  · refine lv_iconst (v := 1) hx hb dX5_areToldAt_56 (by decide) ?_
    exact retZ C rfl hS () (Or.inr rfl) hP hD (Nat.le_of_ble_eq_true rfl) (Nat.le_of_ble_eq_true rfl) dX5_areToldAt_57
  refine lv_aload_n hx hb dX5_areToldAt_10 rfl (lv_at hl 1 rfl) ?_
  refine va_get (D := g.1) (ci := 5) (v := .ref rt) (C := RX5) (T := TX5) (N := 4) hx hb hts hc_X5_areToldAt_X5 hown hK hP 0 rfl rfl 0 (by decide) (hts (.fieldLink RX5 9 "OilPush$Readings" "time" "[I") (List.mem_of_getElem? (i := 2) rfl)) (fun _ h => h) rfl dX5_areToldAt_11 ?_
  refine lv_iload_n hx hb dX5_areToldAt_14 rfl (lv_at hl 0 rfl) ?_
  refine kI (rnN (host := "OilPush") (As := [.ref rt, .int l3_2]) (rest := []) C (c_get l g rt 20 frt l3_2 (by decide)) 2 gX5_areToldAt_X11_get_n29 rfl (nst_19 hN) (by decide +kernel) (by decide +kernel) (by decide +kernel) ⟨(Nat.le_of_ble_eq_true rfl), (Nat.le_of_ble_eq_true rfl)⟩ rfl hl.1 rfl (Nat.le_of_ble_eq_true rfl) dX5_areToldAt_15 ⟨(Nat.le_of_ble_eq_true rfl), (Nat.le_of_ble_eq_true rfl)⟩) (spM0 [false, true, false, false, false, false] hP hD rfl) hA hS (fun r2 u3 H locs hw hP hD hS => ?_)
  have hre := hw
  replace hP : va_P g.1 vwCl [(ra, .inr (5, [.ref rt, .ref ro, .ref rx, .int rc])), (rt, .inl (g.2 0, 20, .inl frt)), (ro, .inl (g.2 0, 20, .inl fro)), (rx, .inl (g.2 0, 20, .inl frx)), (sa, .inr (7, [.ref so, .ref sv, .ref sb, .ref ss, .int wt])), (so, .inl (g.2 0, 6, .inl fo))] H := hP
  replace hD : va_D A [(ra, .inr (5, [.ref rt, .ref ro, .ref rx, .int rc])), (rt, .inl (g.2 0, 20, .inl frt)), (ro, .inl (g.2 0, 20, .inl fro)), (rx, .inl (g.2 0, 20, .inl frx)), (sa, .inr (7, [.ref so, .ref sv, .ref sb, .ref ss, .int wt])), (so, .inl (g.2 0, 6, .inl fo))] := hD
  refine nx_i (v := (r_c_get 20 frt l3_2)) hre ?_
  refine lv_iload_n hx hb dX5_areToldAt_18 rfl (lv_at hl 2 rfl) ?_
  refine lv_icmp_ne (tgt := 50) hx hb dX5_areToldAt_19 (by decide) (fun c4 => ?_) (fun c4 => ?_)
  · refine lv_iinc (v := (l3_2 + 1)) (lv' := [(3, .int (l3_2 + 1)), (0, .ref ra), (1, .int tt), (2, .ref sa)]) hx hb dX5_areToldAt_50 hl (k := 0) rfl rfl (by decide) rfl (fun ls hl => ?_)
    refine lv_goto (tgt := 2) hx hb dX5_areToldAt_53 (by decide) ?_
    exact ih2 (l3_2 + 1) ls H locs ⟨lv_sub hl [0, 1, 2, 3] rfl, hP, hD, hS⟩ (inc_mu2 c1)
  refine lv_aload_n hx hb dX5_areToldAt_22 rfl (lv_at hl 3 rfl) ?_
  refine va_get (D := g.1) (ci := 7) (v := .ref so) (C := RX7) (T := TX7) (N := 5) hx hb hts hc_X5_areToldAt_X7 hown hK hP 4 rfl rfl 0 (by decide) (hts (.fieldLink RX5 39 "OilPush$State" "oil" "[I") (List.mem_of_getElem? (i := 3) rfl)) (fun _ h => h) rfl dX5_areToldAt_23 ?_
  refine lv_aload_n hx hb dX5_areToldAt_26 rfl (lv_at hl 1 rfl) ?_
  refine va_get (D := g.1) (ci := 5) (v := .ref ro) (C := RX5) (T := TX5) (N := 4) hx hb hts hc_X5_areToldAt_X5 hown hK hP 0 rfl rfl 1 (by decide) (hts (.fieldLink RX5 15 "OilPush$Readings" "of" "[I") (List.mem_of_getElem? (i := 4) rfl)) (fun _ h => h) rfl dX5_areToldAt_27 ?_
  refine lv_iload_n hx hb dX5_areToldAt_30 rfl (lv_at hl 0 rfl) ?_
  refine kI (rnN (host := "OilPush") (As := [.ref ro, .int l3_2]) (rest := [.ref so]) C (c_get l g ro 20 fro l3_2 (by decide)) 2 gX5_areToldAt_X11_get_n29 rfl (nst_19 hN) (by decide +kernel) (by decide +kernel) (by decide +kernel) ⟨(Nat.le_of_ble_eq_true rfl), (Nat.le_of_ble_eq_true rfl)⟩ rfl hl.1 rfl (Nat.le_of_ble_eq_true rfl) dX5_areToldAt_31 ⟨(Nat.le_of_ble_eq_true rfl), (Nat.le_of_ble_eq_true rfl)⟩) (spM0 [false, false, true, false, false, false] hP hD rfl) hA hS (fun r5 u6 H locs hw hP hD hS => ?_)
  have hre := hw
  replace hP : va_P g.1 vwCl [(ra, .inr (5, [.ref rt, .ref ro, .ref rx, .int rc])), (rt, .inl (g.2 0, 20, .inl frt)), (ro, .inl (g.2 0, 20, .inl fro)), (rx, .inl (g.2 0, 20, .inl frx)), (sa, .inr (7, [.ref so, .ref sv, .ref sb, .ref ss, .int wt])), (so, .inl (g.2 0, 6, .inl fo))] H := hP
  replace hD : va_D A [(ra, .inr (5, [.ref rt, .ref ro, .ref rx, .int rc])), (rt, .inl (g.2 0, 20, .inl frt)), (ro, .inl (g.2 0, 20, .inl fro)), (rx, .inl (g.2 0, 20, .inl frx)), (sa, .inr (7, [.ref so, .ref sv, .ref sb, .ref ss, .int wt])), (so, .inl (g.2 0, 6, .inl fo))] := hD
  refine nx_i (v := (r_c_get 20 fro l3_2)) hre ?_
  refine kI (rnN (host := "OilPush") (As := [.ref so, .int (r_c_get 20 fro l3_2)]) (rest := []) C (c_get l g so 6 fo (r_c_get 20 fro l3_2) (by decide)) 2 gX5_areToldAt_X11_get_n29 rfl (nst_19 hN) (by decide +kernel) (by decide +kernel) (by decide +kernel) ⟨(Nat.le_of_ble_eq_true rfl), (Nat.le_of_ble_eq_true rfl)⟩ rfl hl.1 rfl (Nat.le_of_ble_eq_true rfl) dX5_areToldAt_34 ⟨(Nat.le_of_ble_eq_true rfl), (Nat.le_of_ble_eq_true rfl)⟩) (spM0 [false, false, false, false, false, true] hP hD rfl) hA hS (fun r7 u8 H locs hw hP hD hS => ?_)
  have hre := hw
  replace hP : va_P g.1 vwCl [(ra, .inr (5, [.ref rt, .ref ro, .ref rx, .int rc])), (rt, .inl (g.2 0, 20, .inl frt)), (ro, .inl (g.2 0, 20, .inl fro)), (rx, .inl (g.2 0, 20, .inl frx)), (sa, .inr (7, [.ref so, .ref sv, .ref sb, .ref ss, .int wt])), (so, .inl (g.2 0, 6, .inl fo))] H := hP
  replace hD : va_D A [(ra, .inr (5, [.ref rt, .ref ro, .ref rx, .int rc])), (rt, .inl (g.2 0, 20, .inl frt)), (ro, .inl (g.2 0, 20, .inl fro)), (rx, .inl (g.2 0, 20, .inl frx)), (sa, .inr (7, [.ref so, .ref sv, .ref sb, .ref ss, .int wt])), (so, .inl (g.2 0, 6, .inl fo))] := hD
  refine nx_i (v := (r_c_get 6 fo (r_c_get 20 fro l3_2))) hre ?_
  refine lv_aload_n hx hb dX5_areToldAt_37 rfl (lv_at hl 1 rfl) ?_
  refine va_get (D := g.1) (ci := 5) (v := .ref rx) (C := RX5) (T := TX5) (N := 4) hx hb hts hc_X5_areToldAt_X5 hown hK hP 0 rfl rfl 2 (by decide) (hts (.fieldLink RX5 18 "OilPush$Readings" "oil" "[I") (List.mem_of_getElem? (i := 5) rfl)) (fun _ h => h) rfl dX5_areToldAt_38 ?_
  refine lv_iload_n hx hb dX5_areToldAt_41 rfl (lv_at hl 0 rfl) ?_
  refine kI (rnN (host := "OilPush") (As := [.ref rx, .int l3_2]) (rest := [.int (r_c_get 6 fo (r_c_get 20 fro l3_2))]) C (c_get l g rx 20 frx l3_2 (by decide)) 2 gX5_areToldAt_X11_get_n29 rfl (nst_19 hN) (by decide +kernel) (by decide +kernel) (by decide +kernel) ⟨(Nat.le_of_ble_eq_true rfl), (Nat.le_of_ble_eq_true rfl)⟩ rfl hl.1 rfl (Nat.le_of_ble_eq_true rfl) dX5_areToldAt_42 ⟨(Nat.le_of_ble_eq_true rfl), (Nat.le_of_ble_eq_true rfl)⟩) (spM0 [false, false, false, true, false, false] hP hD rfl) hA hS (fun r9 u10 H locs hw hP hD hS => ?_)
  have hre := hw
  replace hP : va_P g.1 vwCl [(ra, .inr (5, [.ref rt, .ref ro, .ref rx, .int rc])), (rt, .inl (g.2 0, 20, .inl frt)), (ro, .inl (g.2 0, 20, .inl fro)), (rx, .inl (g.2 0, 20, .inl frx)), (sa, .inr (7, [.ref so, .ref sv, .ref sb, .ref ss, .int wt])), (so, .inl (g.2 0, 6, .inl fo))] H := hP
  replace hD : va_D A [(ra, .inr (5, [.ref rt, .ref ro, .ref rx, .int rc])), (rt, .inl (g.2 0, 20, .inl frt)), (ro, .inl (g.2 0, 20, .inl fro)), (rx, .inl (g.2 0, 20, .inl frx)), (sa, .inr (7, [.ref so, .ref sv, .ref sb, .ref ss, .int wt])), (so, .inl (g.2 0, 6, .inl fo))] := hD
  refine nx_i (v := (r_c_get 20 frx l3_2)) hre ?_
  refine lv_icmp_eq (tgt := 50) hx hb dX5_areToldAt_45 (by decide) (fun c11 => ?_) (fun c11 => ?_)
  · refine lv_iinc (v := (l3_2 + 1)) (lv' := [(3, .int (l3_2 + 1)), (0, .ref ra), (1, .int tt), (2, .ref sa)]) hx hb dX5_areToldAt_50 hl (k := 0) rfl rfl (by decide) rfl (fun ls hl => ?_)
    refine lv_goto (tgt := 2) hx hb dX5_areToldAt_53 (by decide) ?_
    exact ih2 (l3_2 + 1) ls H locs ⟨lv_sub hl [0, 1, 2, 3] rfl, hP, hD, hS⟩ (inc_mu2 c1)
  refine lv_iconst (v := 0) hx hb dX5_areToldAt_48 (by decide) ?_
  exact retZ C rfl hS () (Or.inl rfl) hP hD (Nat.le_of_ble_eq_true rfl) (Nat.le_of_ble_eq_true rfl) dX5_areToldAt_49
