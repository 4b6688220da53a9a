theorem hc_X5_latest_X5 : ∀ w ∈ wsX50, w ∈ wsX5_latest := fun w h => List.mem_cons_of_mem _ (List.mem_append_right _ h)
set_option maxRecDepth 100000 in
set_option maxHeartbeats 4000000 in
theorem r_latest (l : Launch) (g : Gt) (ra : Nat) (rt : Nat) (ro : Nat) (rx : Nat) (rc : Int32) (frt : Nat → Int32) (hTB : TB frt) : Ctr l g yX5_latest wsX5_latest ({ frames := 1, cells := 0, slots := 0, locals := 21 } : Room) [.ref ra] [(ra, .inr (5, [.ref rt, .ref ro, .ref rx, .int rc])), (rt, .inl (g.2 0, 20, .inl frt))] (fun A => QI g A (fun r (u : Unit) => (r.toInt ≤ 200)) (fun (u : Unit) => [(ra, .inr (5, [.ref rt, .ref ro, .ref rx, .int rc])), (rt, .inl (g.2 0, 20, .inl frt))])) := by
  refine Ctr.of (cc := cX5_latest) (maxL := 3) (ret := (some .int)) (by decide) rfl (Nat.le_of_ble_eq_true rfl) ?_
  intro p e s m below meth c A ls H C hP hD hA hS hl
  obtain ⟨hx, hb, hr, hts, hown, hlocks, hml, hin, hKN⟩ := id C
  have hK := hKN.1
  have hN := hKN.2
  have F : CallFix p m c cX5_latest 3 s _ wsX5_latest yX5_latest.cls := ⟨hx, hb, hml, hown, hts⟩
  have hl : lv_has ls 3 [(0, .ref ra)] := hl
  refine lv_iconst (v := 0) hx hb dX5_latest_0 (by decide) ?_
  refine lv_istore_n (lv' := [(1, .int 0), (0, .ref ra)]) hx hb dX5_latest_1 rfl hl (by decide) rfl (fun ls hl => ?_)
  refine lv_iconst (v := 0) hx hb dX5_latest_2 (by decide) ?_
  refine lv_istore_n (lv' := [(2, .int 0), (1, .int 0), (0, .ref ra)]) hx hb dX5_latest_3 rfl hl (by decide) rfl (fun ls hl => ?_)
  refine W.loop (α := Int32 × Int32) (P := fun z ls H locs => ((z.1).toInt ≤ 200) ∧ lv_has ls 3 [(2, .int z.2), (1, .int z.1), (0, .ref ra)] ∧ va_P g.1 vwCl [(ra, .inr (5, [.ref rt, .ref ro, .ref rx, .int rc])), (rt, .inl (g.2 0, 20, .inl frt))] H ∧ va_D A [(ra, .inr (5, [.ref rt, .ref ro, .ref rx, .int rc])), (rt, .inl (g.2 0, 20, .inl frt))] ∧ va_S A s.heap H locs) (μ := fun z => (rc.toInt - (z.2).toInt).toNat) (0, 0) ⟨z_200, hl, hP, hD, hS⟩ (fun z ls H locs hh ih4 => ?_)
  obtain ⟨l1_4, l2_4⟩ := z
  try dsimp only at hh ih4
  obtain ⟨hiv4, hl, hP, hD, hS⟩ := hh
  have hl : lv_has ls 3 [(2, .int l2_4), (1, .int l1_4), (0, .ref ra)] := hl
  replace hP : va_P g.1 vwCl [(ra, .inr (5, [.ref rt, .ref ro, .ref rx, .int rc])), (rt, .inl (g.2 0, 20, .inl frt))] H := hP
  replace hD : va_D A [(ra, .inr (5, [.ref rt, .ref ro, .ref rx, .int rc])), (rt, .inl (g.2 0, 20, .inl frt))] := hD
  refine lv_iload_n hx hb dX5_latest_4 rfl (lv_at hl 0 rfl) ?_
  refine lv_aload_n hx hb dX5_latest_5 rfl (lv_at hl 2 rfl) ?_
  refine va_get (D := g.1) (ci := 5) (v := .int rc) (C := RX5) (T := TX5) (N := 4) hx hb hts hc_X5_latest_X5 hown hK hP 0 rfl rfl 3 (by decide) (hts (.fieldLink RX5 21 "OilPush$Readings" "count" "I") (List.mem_of_getElem? (i := 1) rfl)) (fun _ h => h) rfl dX5_latest_6 ?_
  refine lv_icmp_ge (tgt := 31) hx hb dX5_latest_9 (by decide) (fun c1 => ?_) (fun c1 => ?_)
  · refine lv_iload_n hx hb dX5_latest_31 rfl (lv_at hl 1 rfl) ?_
    exact retI C hS () hiv4 hP hD (Nat.le_of_ble_eq_true rfl) (Nat.le_of_ble_eq_true rfl) dX5_latest_32
  refine lv_iload_n hx hb dX5_latest_12 rfl (lv_at hl 1 rfl) ?_
  refine lv_aload_n hx hb dX5_latest_13 rfl (lv_at hl 2 rfl) ?_
  refine va_get (D := g.1) (ci := 5) (v := .ref rt) (C := RX5) (T := TX5) (N := 4) hx hb hts hc_X5_latest_X5 hown hK hP 0 rfl rfl 0 (by decide) (hts (.fieldLink RX5 9 "OilPush$Readings" "time" "[I") (List.mem_of_getElem? (i := 2) rfl)) (fun _ h => h) rfl dX5_latest_14 ?_
  refine lv_iload_n hx hb dX5_latest_17 rfl (lv_at hl 0 rfl) ?_
  refine kI (rnN (host := "OilPush") (As := [.ref rt, .int l2_4]) (rest := [.int l1_4]) C (c_get l g rt 20 frt l2_4 (by decide)) 2 gX5_latest_X11_get_n29 rfl (nst_19 hN) (by decide +kernel) (by decide +kernel) (by decide +kernel) ⟨(Nat.le_of_ble_eq_true rfl), (Nat.le_of_ble_eq_true rfl)⟩ rfl hl.1 rfl (Nat.le_of_ble_eq_true rfl) dX5_latest_18 ⟨(Nat.le_of_ble_eq_true rfl), (Nat.le_of_ble_eq_true rfl)⟩) (spM0 [false, true] hP hD rfl) hA hS (fun r2 u3 H locs hw hP hD hS => ?_)
  have hre := hw
  replace hP : va_P g.1 vwCl [(ra, .inr (5, [.ref rt, .ref ro, .ref rx, .int rc])), (rt, .inl (g.2 0, 20, .inl frt))] H := hP
  replace hD : va_D A [(ra, .inr (5, [.ref rt, .ref ro, .ref rx, .int rc])), (rt, .inl (g.2 0, 20, .inl frt))] := hD
  refine nx_i (v := (r_c_get 20 frt l2_4)) hre ?_
  refine va_mmax (x := l1_4) (y := (r_c_get 20 frt l2_4)) hx hb (by rw [hml]; exact hl.1.symm) hown (hts (.methodLink RX5 33 Lib.Math.max.name) (List.mem_of_getElem? (i := 3) rfl)) (hts (.static Lib.Math.max.name) (List.mem_of_getElem? (i := 4) rfl)) (hts (.initialized "java/lang/Math") (List.mem_of_getElem? (i := 5) rfl)) (hts (.code Lib.Math.max.name Lib.Math.max.code 2 (some .int)) (List.mem_of_getElem? (i := 6) rfl)) (Nat.le_of_ble_eq_true rfl) (Nat.le_of_ble_eq_true rfl) (Nat.le_of_ble_eq_true rfl) (Nat.le_of_ble_eq_true rfl) dX5_latest_21 ?_
  refine lv_istore_n (lv' := [(1, .int (if l1_4 < (r_c_get 20 frt l2_4) then (r_c_get 20 frt l2_4) else l1_4)), (2, .int l2_4), (0, .ref ra)]) hx hb dX5_latest_24 rfl hl (by decide) rfl (fun ls hl => ?_)
  refine lv_iinc (v := (l2_4 + 1)) (lv' := [(2, .int (l2_4 + 1)), (1, .int (if l1_4 < (r_c_get 20 frt l2_4) then (r_c_get 20 frt l2_4) else l1_4)), (0, .ref ra)]) hx hb dX5_latest_25 hl (k := 1) rfl rfl (by decide) rfl (fun ls hl => ?_)
  refine lv_goto (tgt := 4) hx hb dX5_latest_28 (by decide) ?_
  exact ih4 ((if l1_4 < (r_c_get 20 frt l2_4) then (r_c_get 20 frt l2_4) else l1_4), (l2_4 + 1)) ls H locs ⟨(max_200 hiv4 (TB_get hTB _ _)), lv_sub hl [0, 1, 2] rfl, hP, hD, hS⟩ (inc_mu2 c1)
set_option maxRecDepth 100000 in
set_option maxHeartbeats 4000000 in
theorem p_isHeld (l : Launch) (g : Gt) (pl : Nat) (gv : Int32) (lim : Int32) (ca : Nat) (cnt : Int32) (la : Nat) (fc : Nat → Option Nat) (cy : Int32) (cs : List Cy) (hcs : CS cs cnt fc) : Ctr l g yX4_isHeld wsX4_isHeld ({ frames := 1, cells := 0, slots := 0, locals := 21 } : Room) [.ref pl, .int cy] ([(pl, .inr (4, [.int gv, .int lim, .ref ca, .int cnt, .ref la])), (ca, .inl (g.2 3, 6, .inr (.inr (.inr (.inr fc)))))] ++ cysW g cs) (fun A => QI g A (fun r (u : Unit) => (r = 0 ∨ r = 1)) (fun (u : Unit) => ([(pl, .inr (4, [.int gv, .int lim, .ref ca, .int cnt, .ref la])), (ca, .inl (g.2 3, 6, .inr (.inr (.inr (.inr fc)))))] ++ cysW g cs))) := by
  refine Ctr.of (cc := cX4_isHeld) (maxL := 2) (ret := (some .boolean)) (by decide) rfl (Nat.le_of_ble_eq_true rfl) ?_
  intro p e s m below meth c A ls H C hP hD hA hS hl
  obtain ⟨hx, hb, hr, hts, hown, hlocks, hml, hin, hKN⟩ := id C
  have hK := hKN.1
  have hN := hKN.2
  have F : CallFix p m c cX4_isHeld 2 s _ wsX4_isHeld yX4_isHeld.cls := ⟨hx, hb, hml, hown, hts⟩
  have hl : lv_has ls 2 [(0, .ref pl), (1, .int cy)] := hl
  refine lv_aload_n hx hb dX4_isHeld_0 rfl (lv_at hl 0 rfl) ?_
  refine lv_iload_n hx hb dX4_isHeld_1 rfl (lv_at hl 1 rfl) ?_
  refine kQ (rnV (As := [.int cy]) (rest := []) (Cn := RX4) C (p_at l g pl gv lim ca cnt la fc cy) 1 gX4_isHeld_X4_at rfl (by decide +kernel) ⟨(Nat.le_of_ble_eq_true rfl), (Nat.le_of_ble_eq_true rfl)⟩ hP (k := 0) (ci := 4) rfl rfl rfl rfl hl.1 rfl (Nat.le_of_ble_eq_true rfl) dX4_isHeld_2 ⟨(Nat.le_of_ble_eq_true rfl), (Nat.le_of_ble_eq_true rfl)⟩) (spM (X := [(pl, .inr (4, [.int gv, .int lim, .ref ca, .int cnt, .ref la])), (ca, .inl (g.2 3, 6, .inr (.inr (.inr (.inr fc)))))]) (pl := cysW g cs) [true, true] hP hD rfl) hA hS (fun r1 u2 H locs hw hP hD hS => ?_)
  have f3 := hw
  replace hP : va_P g.1 vwCl ([(pl, .inr (4, [.int gv, .int lim, .ref ca, .int cnt, .ref la])), (ca, .inl (g.2 3, 6, .inr (.inr (.inr (.inr fc)))))] ++ cysW g cs) H := hP
  replace hD : va_D A ([(pl, .inr (4, [.int gv, .int lim, .ref ca, .int cnt, .ref la])), (ca, .inl (g.2 3, 6, .inr (.inr (.inr (.inr fc)))))] ++ cysW g cs) := hD
  rcases at_cases hcs f3 with ⟨hr9, hout⟩ | ⟨l1, y9, l2, hcse, hce, hr9⟩
  · subst hr9
    refine nx_v (v := .null) rfl ?_
    refine lv_instN hx hb dX4_isHeld_5 ?_
    exact retZ C rfl hS () (Or.inl rfl) hP hD (Nat.le_of_ble_eq_true rfl) (Nat.le_of_ble_eq_true rfl) dX4_isHeld_8
  subst hr9
  obtain ⟨yb, yr, yk, ynum, yar, ysk, ylc, ycr, yfl, yrow⟩ := y9
  refine nx_v (v := .ref yb) rfl ?_
  replace hP := zk_csP hcse hP; replace hD := zk_csD hcse hD
  replace hP := cys_splitP hP
  replace hD := cys_splitD hD
  replace hP : va_P g.1 vwCl ([(pl, .inr (4, [.int gv, .int lim, .ref ca, .int cnt, .ref la])), (ca, .inl (g.2 3, 6, .inr (.inr (.inr (.inr fc))))), (yb, .inr (ckI yk, [.int ynum, .int yar, .int ysk, .ref yr, .int ylc, .int ycr, .int yfl])), (yr, .inl (g.2 0, 10, .inl yrow))] ++ (cysW g l1 ++ cysW g l2)) H := hP
  replace hD : va_D A ([(pl, .inr (4, [.int gv, .int lim, .ref ca, .int cnt, .ref la])), (ca, .inl (g.2 3, 6, .inr (.inr (.inr (.inr fc))))), (yb, .inr (ckI yk, [.int ynum, .int yar, .int ysk, .ref yr, .int ylc, .int ycr, .int yfl])), (yr, .inl (g.2 0, 10, .inl yrow))] ++ (cysW g l1 ++ cysW g l2)) := hD
  refine stepJ (pc' := 8) (v := .int (ckH yk)) (rest := []) (ck_elim (P := fun k9 => va_P g.1 vwCl ([(pl, .inr (4, [.int gv, .int lim, .ref ca, .int cnt, .ref la])), (ca, .inl (g.2 3, 6, .inr (.inr (.inr (.inr fc))))), (yb, .inr (ckI k9, [.int ynum, .int yar, .int ysk, .ref yr, .int ylc, .int ycr, .int yfl])), (yr, .inl (g.2 0, 10, .inl yrow))] ++ (cysW g l1 ++ cysW g l2)) H → W p l e _ s m _ below meth c _ _ _ _ _ (F0 m 8 ls [.int (ckH k9)]) → W p l e _ s m _ below meth c _ _ _ _ _ (F0 m 5 ls [.ref yb])) (fun hP kk => va_instNo (C := "OilPush$Cylinder") hx hb hown (hts (.classLink RX4 31 "OilPush$Held") (List.mem_of_getElem? (i := 1) rfl)) hN.2.2.2.2.2.2.1 (va_recv hK hP (ci := 0) rfl (q0 := 2) rfl) dX4_isHeld_5 kk) (fun hP kk => va_instS hx hb hown (hts (.classLink RX4 31 "OilPush$Held") (List.mem_of_getElem? (i := 1) rfl)) (hK.1 2 _ rfl).2 (va_recv hK hP (ci := 2) rfl (q0 := 2) rfl) dX4_isHeld_5 kk) (fun hP kk => va_instY (C := "OilPush$Twin") hx hb hown (hts (.classLink RX4 31 "OilPush$Held") (List.mem_of_getElem? (i := 1) rfl)) hN.2.2.2.2.2.1 (va_recv hK hP (ci := 10) rfl (q0 := 2) rfl) dX4_isHeld_5 kk) yk hP) ?_
  replace hP : va_P g.1 vwCl ([(pl, .inr (4, [.int gv, .int lim, .ref ca, .int cnt, .ref la])), (ca, .inl (g.2 3, 6, .inr (.inr (.inr (.inr fc)))))] ++ cysW g (l1 ++ (yb, yr, yk, ynum, yar, ysk, ylc, ycr, yfl, yrow) :: l2)) H := cys_joinP (X := [(pl, .inr (4, [.int gv, .int lim, .ref ca, .int cnt, .ref la])), (ca, .inl (g.2 3, 6, .inr (.inr (.inr (.inr fc)))))]) (y := (yb, yr, yk, ynum, yar, ysk, ylc, ycr, yfl, yrow)) (hP.part [0, 1, 2, 3] rfl)
  replace hD : va_D A ([(pl, .inr (4, [.int gv, .int lim, .ref ca, .int cnt, .ref la])), (ca, .inl (g.2 3, 6, .inr (.inr (.inr (.inr fc)))))] ++ cysW g (l1 ++ (yb, yr, yk, ynum, yar, ysk, ylc, ycr, yfl, yrow) :: l2)) := cys_joinD (X := [(pl, .inr (4, [.int gv, .int lim, .ref ca, .int cnt, .ref la])), (ca, .inl (g.2 3, 6, .inr (.inr (.inr (.inr fc)))))]) (y := (yb, yr, yk, ynum, yar, ysk, ylc, ycr, yfl, yrow)) (hD.part [0, 1, 2, 3] rfl rfl)
  replace hP := zk_csP hcse.symm hP; replace hD := zk_csD hcse.symm hD
  exact retZ C (nb01 (ck01 _).1) hS () (ck01 _).1 hP hD (Nat.le_of_ble_eq_true rfl) (Nat.le_of_ble_eq_true rfl) dX4_isHeld_8
theorem hc_X11_wouldTellAll_X11 : ∀ w ∈ wsX110, w ∈ wsX11_wouldTellAll := fun w h => List.mem_cons_of_mem _ (List.mem_append_left _ (List.mem_append_left _ (List.mem_append_left _ (List.mem_append_left _ (List.mem_append_left _ (List.mem_append_left _ (List.mem_append_left _ (List.mem_append_left _ (List.mem_append_left _ (List.mem_append_right _ h))))))))))
theorem hc_X11_tick_X11 : ∀ w ∈ wsX110, w ∈ wsX11_tick := fun w h => List.mem_cons_of_mem _ (List.mem_append_left _ (List.mem_append_left _ (List.mem_append_left _ (List.mem_append_left _ (List.mem_append_left _ (List.mem_append_left _ (List.mem_append_left _ (List.mem_append_left _ (List.mem_append_right _ h)))))))))
theorem hc_X11_tick_X4 : ∀ w ∈ wsX40, w ∈ wsX11_tick := fun w h => List.mem_cons_of_mem _ (List.mem_append_left _ (List.mem_append_left _ (List.mem_append_left _ (List.mem_append_left _ (List.mem_append_left _ (List.mem_append_left _ (List.mem_append_left _ (List.mem_append_right _ h))))))))
theorem hc_X11_leak_X11 : ∀ w ∈ wsX110, w ∈ wsX11_leak := fun w h => List.mem_cons_of_mem _ (List.mem_append_left _ (List.mem_append_left _ (List.mem_append_left _ (List.mem_append_left _ (List.mem_append_left _ (List.mem_append_left _ (List.mem_append_left _ (List.mem_append_left _ (List.mem_append_left _ (List.mem_append_right _ h))))))))))
theorem hc_X11_leak_X4 : ∀ w ∈ wsX40, w ∈ wsX11_leak := fun w h => List.mem_cons_of_mem _ (List.mem_append_left _ (List.mem_append_left _ (List.mem_append_left _ (List.mem_append_left _ (List.mem_append_left _ (List.mem_append_left _ (List.mem_append_left _ (List.mem_append_left _ (List.mem_append_right _ h)))))))))
