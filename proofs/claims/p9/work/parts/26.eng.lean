def PA (cnt : Int32) (fc : Nat → Option Nat) (cy : Int32) (r : Option Nat) : Prop := ((cy < 0 ∨ cnt ≤ cy ∨ 6 ≤ cy) ∧ r = none) ∨ (¬ cy < 0 ∧ ¬ cnt ≤ cy ∧ ¬ 6 ≤ cy ∧ r = fc cy.toNatClampNeg)
theorem at_cases {cs : List Cy} {cnt cy : Int32} {fc : Nat → Option Nat} {r : Option Nat} (h : CS cs cnt fc) (hr : PA cnt fc cy r) : (r = none ∧ ¬ (0 ≤ cy.toInt ∧ cy.toInt < cs.length)) ∨ ∃ l1 y l2, cs = l1 ++ y :: l2 ∧ cy = nI l1.length ∧ r = some y.1 := by
  obtain ⟨hc, h6, hf⟩ := h
  have e1 : cnt.toInt = cs.length := by rw [hc, nI_toInt (by omega)]
  have e6 : (6 : Int32).toInt = 6 := by decide
  have e0 : (0 : Int32).toInt = 0 := by decide
  rcases hr with ⟨h1, h2⟩ | ⟨h1, h2, h3, h4⟩
  · refine Or.inl ⟨h2, ?_⟩
    rw [Int32.lt_iff_toInt_lt, Int32.le_iff_toInt_le, Int32.le_iff_toInt_le, e1, e6, e0] at h1
    omega
  · rw [Int32.lt_iff_toInt_lt, e0] at h1
    rw [Int32.le_iff_toInt_le, e1] at h2
    have hj : cy.toInt.toNat < cs.length := by omega
    refine Or.inr ⟨cs.take cy.toInt.toNat, cs[cy.toInt.toNat], cs.drop (cy.toInt.toNat + 1), ?_, ?_, ?_⟩
    · rw [← List.drop_eq_getElem_cons hj, List.take_append_drop]
    · rw [List.length_take, Nat.min_eq_left (by omega)]
      exact Int32.toInt_inj.mp (by rw [nI_toInt (by omega)]; omega)
    · rw [h4, hf]
      show (cs[cy.toInt.toNat]?).map (fun y => y.1) = _
      rw [List.getElem?_eq_getElem hj]
      rfl
theorem hc_X4_at_X4 : ∀ w ∈ wsX40, w ∈ wsX4_at := fun w h => List.mem_cons_of_mem _ (List.mem_append_right _ h)
set_option maxRecDepth 100000 in
set_option maxHeartbeats 4000000 in
theorem p_at (l : Launch) (g : Gt) (pl : Nat) (gv : Int32) (lim : Int32) (ca : Nat) (cnt : Int32) (la : Nat) (fc : Nat → Option Nat) (cy : Int32)  : Ctr l g yX4_at wsX4_at ({ frames := 0, cells := 0, slots := 0, locals := 0 } : Room) [.ref pl, .int cy] [(pl, .inr (4, [.int gv, .int lim, .ref ca, .int cnt, .ref la])), (ca, .inl (g.2 3, 6, .inr (.inr (.inr (.inr fc)))))] (fun A => QQ g A (fun r (u : Unit) => (PA cnt fc cy r)) (fun (u : Unit) => [(pl, .inr (4, [.int gv, .int lim, .ref ca, .int cnt, .ref la])), (ca, .inl (g.2 3, 6, .inr (.inr (.inr (.inr fc)))))])) := by
  refine Ctr.of (cc := cX4_at) (maxL := 2) (ret := (some (.object "OilPush$Cylinder"))) (by decide) rfl (Nat.le_of_ble_eq_true rfl) ?_
  intro p e s m below meth c A ls H C hP hD hA hS hl
  obtain ⟨hx, hb, hr, hts, hown, hlocks, hml, hin, hKN⟩ := id C
  have hK := hKN.1
  have hN := hKN.2
  have F : CallFix p m c cX4_at 2 s _ wsX4_at yX4_at.cls := ⟨hx, hb, hml, hown, hts⟩
  have hl : lv_has ls 2 [(0, .ref pl), (1, .int cy)] := hl
  refine lv_iload_n hx hb dX4_at_0 rfl (lv_at hl 1 rfl) ?_
  refine lv_if_lt (tgt := 30) hx hb dX4_at_1 (by decide) (fun c1 => ?_) (fun c1 => ?_)
  · refine lv_null hx hb dX4_at_30 ?_
    exact retQ (r := none) C hS () (Or.inl ⟨Or.inl c1, rfl⟩) hP hD (Nat.le_of_ble_eq_true rfl) (Nat.le_of_ble_eq_true rfl) rfl dX4_at_31
  refine lv_iload_n hx hb dX4_at_4 rfl (lv_at hl 1 rfl) ?_
  refine lv_aload_n hx hb dX4_at_5 rfl (lv_at hl 0 rfl) ?_
  refine va_get (D := g.1) (ci := 4) (v := .int cnt) (C := RX4) (T := TX4) (N := 5) hx hb hts hc_X4_at_X4 hown hK hP 0 rfl rfl 3 (by decide) (hts (.fieldLink RX4 25 "OilPush$Plant" "count" "I") (List.mem_of_getElem? (i := 1) rfl)) (fun _ h => h) rfl dX4_at_6 ?_
  refine lv_icmp_ge (tgt := 30) hx hb dX4_at_9 (by decide) (fun c2 => ?_) (fun c2 => ?_)
  · refine lv_null hx hb dX4_at_30 ?_
    exact retQ (r := none) C hS () (Or.inl ⟨Or.inr (Or.inl c2), rfl⟩) hP hD (Nat.le_of_ble_eq_true rfl) (Nat.le_of_ble_eq_true rfl) rfl dX4_at_31
  refine lv_iload_n hx hb dX4_at_12 rfl (lv_at hl 1 rfl) ?_
  refine lv_aload_n hx hb dX4_at_13 rfl (lv_at hl 0 rfl) ?_
  refine va_get (D := g.1) (ci := 4) (v := .ref ca) (C := RX4) (T := TX4) (N := 5) hx hb hts hc_X4_at_X4 hown hK hP 0 rfl rfl 2 (by decide) (hts (.fieldLink RX4 17 "OilPush$Plant" "cylinders" "[LOilPush$Cylinder;") (List.mem_of_getElem? (i := 2) rfl)) (fun _ h => h) rfl dX4_at_14 ?_
  refine va_alen (v := 6) hx hb hK hP 1 3 rfl rfl rfl dX4_at_17 ?_
  refine lv_icmp_ge (tgt := 30) hx hb dX4_at_18 (by decide) (fun c3 => ?_) (fun c3 => ?_)
  · refine lv_null hx hb dX4_at_30 ?_
    exact retQ (r := none) C hS () (Or.inl ⟨Or.inr (Or.inr c3), rfl⟩) hP hD (Nat.le_of_ble_eq_true rfl) (Nat.le_of_ble_eq_true rfl) rfl dX4_at_31
  refine lv_aload_n hx hb dX4_at_21 rfl (lv_at hl 0 rfl) ?_
  refine va_get (D := g.1) (ci := 4) (v := .ref ca) (C := RX4) (T := TX4) (N := 5) hx hb hts hc_X4_at_X4 hown hK hP 0 rfl rfl 2 (by decide) (hts (.fieldLink RX4 17 "OilPush$Plant" "cylinders" "[LOilPush$Cylinder;") (List.mem_of_getElem? (i := 2) rfl)) (fun _ h => h) rfl dX4_at_22 ?_
  refine lv_iload_n hx hb dX4_at_25 rfl (lv_at hl 1 rfl) ?_
  refine va_aldq hx hb hK hP 1 3 rfl rfl (in_of (n := 6) (by decide) c1 c3) dX4_at_26 ?_
  refine lv_goto (tgt := 31) hx hb dX4_at_27 (by decide) ?_
  exact retQ (r := (fc (cy.toNatClampNeg))) C hS () (Or.inr ⟨c1, c2, c3, rfl⟩) hP hD (Nat.le_of_ble_eq_true rfl) (Nat.le_of_ble_eq_true rfl) rfl dX4_at_31
theorem hc_X8_pressure_X8 : ∀ w ∈ wsX80, w ∈ wsX8_pressure := fun w h => List.mem_cons_of_mem _ (List.mem_append_right _ h)
theorem hc_X8_become_X8 : ∀ w ∈ wsX80, w ∈ wsX8_become := fun w h => List.mem_cons_of_mem _ (List.mem_append_right _ h)
set_option maxRecDepth 100000 in
set_option maxHeartbeats 4000000 in
theorem s_become (l : Launch) (g : Gt) (ss : Nat) (cap : Int32) (fst : Int32) (stf : Int32) (sol : Int32) (tss : Nat) (tcap : Int32) (tfst : Int32) (tstf : Int32) (tsol : Int32)  : Ctr l g yX8_become wsX8_become ({ frames := 0, cells := 0, slots := 0, locals := 0 } : Room) [.ref ss, .ref tss] [(ss, .inr (8, [.int cap, .int fst, .int stf, .int sol])), (tss, .inr (8, [.int tcap, .int tfst, .int tstf, .int tsol]))] (fun A => QV g A (fun (u : Int32 × Int32 × Int32 × Int32) => True) (fun (u : Int32 × Int32 × Int32 × Int32) => [(ss, .inr (8, [.int u.1, .int u.2.1, .int u.2.2.1, .int u.2.2.2])), (tss, .inr (8, [.int tcap, .int tfst, .int tstf, .int tsol]))])) := by
  refine Ctr.of (cc := cX8_become) (maxL := 2) (ret := none) (by decide) rfl (Nat.le_of_ble_eq_true rfl) ?_
  intro p e s m below meth c A ls H C hP hD hA hS hl
  obtain ⟨hx, hb, hr, hts, hown, hlocks, hml, hin, hKN⟩ := id C
  have hK := hKN.1
  have hN := hKN.2
  have F : CallFix p m c cX8_become 2 s _ wsX8_become yX8_become.cls := ⟨hx, hb, hml, hown, hts⟩
  have hl : lv_has ls 2 [(0, .ref ss), (1, .ref tss)] := hl
  refine lv_aload_n hx hb dX8_become_0 rfl (lv_at hl 0 rfl) ?_
  refine lv_aload_n hx hb dX8_become_1 rfl (lv_at hl 1 rfl) ?_
  refine va_get (D := g.1) (ci := 8) (v := .int tcap) (C := RX8) (T := TX8) (N := 4) hx hb hts hc_X8_become_X8 hown hK hP 1 rfl rfl 0 (by decide) (hts (.fieldLink RX8 19 "OilPush$Store" "cap" "I") (List.mem_of_getElem? (i := 1) rfl)) (fun _ h => h) rfl dX8_become_2 ?_
  refine va_put (D := g.1) (ci := 8) (v := .int tcap) (ty := .int) (C := RX8) (T := TX8) (N := 4) hx hb hts hc_X8_become_X8 tyX8 tyX8_ok nmX8 hown hK hP hD hS 0 rfl rfl 0 (by decide) (hts (.fieldLink RX8 19 "OilPush$Store" "cap" "I") (List.mem_of_getElem? (i := 1) rfl)) (fun _ h => h) rfl (by decide +kernel) rfl rfl (Nat.le_of_ble_eq_true rfl) dX8_become_5 (fun H locs hP hD hS => ?_)
  replace hP : va_P g.1 vwCl [(ss, .inr (8, [.int tcap, .int fst, .int stf, .int sol])), (tss, .inr (8, [.int tcap, .int tfst, .int tstf, .int tsol]))] H := hP
  replace hD : va_D A [(ss, .inr (8, [.int tcap, .int fst, .int stf, .int sol])), (tss, .inr (8, [.int tcap, .int tfst, .int tstf, .int tsol]))] := hD
  refine lv_aload_n hx hb dX8_become_8 rfl (lv_at hl 0 rfl) ?_
  refine lv_aload_n hx hb dX8_become_9 rfl (lv_at hl 1 rfl) ?_
  refine va_get (D := g.1) (ci := 8) (v := .int tfst) (C := RX8) (T := TX8) (N := 4) hx hb hts hc_X8_become_X8 hown hK hP 1 rfl rfl 1 (by decide) (hts (.fieldLink RX8 13 "OilPush$Store" "first" "I") (List.mem_of_getElem? (i := 2) rfl)) (fun _ h => h) rfl dX8_become_10 ?_
  refine va_put (D := g.1) (ci := 8) (v := .int tfst) (ty := .int) (C := RX8) (T := TX8) (N := 4) hx hb hts hc_X8_become_X8 tyX8 tyX8_ok nmX8 hown hK hP hD hS 0 rfl rfl 1 (by decide) (hts (.fieldLink RX8 13 "OilPush$Store" "first" "I") (List.mem_of_getElem? (i := 2) rfl)) (fun _ h => h) rfl (by decide +kernel) rfl rfl (Nat.le_of_ble_eq_true rfl) dX8_become_13 (fun H locs hP hD hS => ?_)
  replace hP : va_P g.1 vwCl [(ss, .inr (8, [.int tcap, .int tfst, .int stf, .int sol])), (tss, .inr (8, [.int tcap, .int tfst, .int tstf, .int tsol]))] H := hP
  replace hD : va_D A [(ss, .inr (8, [.int tcap, .int tfst, .int stf, .int sol])), (tss, .inr (8, [.int tcap, .int tfst, .int tstf, .int tsol]))] := hD
  refine lv_aload_n hx hb dX8_become_16 rfl (lv_at hl 0 rfl) ?_
  refine lv_aload_n hx hb dX8_become_17 rfl (lv_at hl 1 rfl) ?_
  refine va_get (D := g.1) (ci := 8) (v := .int tstf) (C := RX8) (T := TX8) (N := 4) hx hb hts hc_X8_become_X8 hown hK hP 1 rfl rfl 2 (by decide) (hts (.fieldLink RX8 7 "OilPush$Store" "stiff" "I") (List.mem_of_getElem? (i := 3) rfl)) (fun _ h => h) rfl dX8_become_18 ?_
  refine va_put (D := g.1) (ci := 8) (v := .int tstf) (ty := .int) (C := RX8) (T := TX8) (N := 4) hx hb hts hc_X8_become_X8 tyX8 tyX8_ok nmX8 hown hK hP hD hS 0 rfl rfl 2 (by decide) (hts (.fieldLink RX8 7 "OilPush$Store" "stiff" "I") (List.mem_of_getElem? (i := 3) rfl)) (fun _ h => h) rfl (by decide +kernel) rfl rfl (Nat.le_of_ble_eq_true rfl) dX8_become_21 (fun H locs hP hD hS => ?_)
  replace hP : va_P g.1 vwCl [(ss, .inr (8, [.int tcap, .int tfst, .int tstf, .int sol])), (tss, .inr (8, [.int tcap, .int tfst, .int tstf, .int tsol]))] H := hP
  replace hD : va_D A [(ss, .inr (8, [.int tcap, .int tfst, .int tstf, .int sol])), (tss, .inr (8, [.int tcap, .int tfst, .int tstf, .int tsol]))] := hD
  refine lv_aload_n hx hb dX8_become_24 rfl (lv_at hl 0 rfl) ?_
  refine lv_aload_n hx hb dX8_become_25 rfl (lv_at hl 1 rfl) ?_
  refine va_get (D := g.1) (ci := 8) (v := .int tsol) (C := RX8) (T := TX8) (N := 4) hx hb hts hc_X8_become_X8 hown hK hP 1 rfl rfl 3 (by decide) (hts (.fieldLink RX8 16 "OilPush$Store" "oil" "I") (List.mem_of_getElem? (i := 4) rfl)) (fun _ h => h) rfl dX8_become_26 ?_
  refine va_put (D := g.1) (ci := 8) (v := .int tsol) (ty := .int) (C := RX8) (T := TX8) (N := 4) hx hb hts hc_X8_become_X8 tyX8 tyX8_ok nmX8 hown hK hP hD hS 0 rfl rfl 3 (by decide) (hts (.fieldLink RX8 16 "OilPush$Store" "oil" "I") (List.mem_of_getElem? (i := 4) rfl)) (fun _ h => h) rfl (by decide +kernel) rfl rfl (Nat.le_of_ble_eq_true rfl) dX8_become_29 (fun H locs hP hD hS => ?_)
  replace hP : va_P g.1 vwCl [(ss, .inr (8, [.int tcap, .int tfst, .int tstf, .int tsol])), (tss, .inr (8, [.int tcap, .int tfst, .int tstf, .int tsol]))] H := hP
  replace hD : va_D A [(ss, .inr (8, [.int tcap, .int tfst, .int tstf, .int tsol])), (tss, .inr (8, [.int tcap, .int tfst, .int tstf, .int tsol]))] := hD
  exact retV C hS (tcap, tfst, tstf, tsol) trivial hP hD (Nat.le_of_ble_eq_true rfl) (Nat.le_of_ble_eq_true rfl) dX8_become_32
theorem hc_X7_become_X7 : ∀ w ∈ wsX70, w ∈ wsX7_become := fun w h => List.mem_cons_of_mem _ (List.mem_append_left _ (List.mem_append_right _ h))
set_option maxRecDepth 100000 in
set_option maxHeartbeats 4000000 in
theorem t_become (l : Launch) (g : Gt) (sa : Nat) (so : Nat) (sv : Nat) (sb : Nat) (ss : Nat) (wt : Int32) (fo : Nat → Int32) (fv : Nat → Int32) (fb : Nat → Int32) (cap : Int32) (fst : Int32) (stf : Int32) (sol : Int32) (tsa : Nat) (tso : Nat) (tsv : Nat) (tsb : Nat) (tss : Nat) (twt : Int32) (tfo : Nat → Int32) (tfv : Nat → Int32) (tfb : Nat → Int32) (tcap : Int32) (tfst : Int32) (tstf : Int32) (tsol : Int32)  : Ctr l g yX7_become wsX7_become ({ frames := 1, cells := 0, slots := 0, locals := 22 } : Room) [.ref sa, .ref tsa] [(sa, .inr (7, [.ref so, .ref sv, .ref sb, .ref ss, .int wt])), (so, .inl (g.2 0, 6, .inl fo)), (sv, .inl (g.2 0, 6, .inl fv)), (sb, .inl (g.2 0, 6, .inl fb)), (ss, .inr (8, [.int cap, .int fst, .int stf, .int sol])), (tsa, .inr (7, [.ref tso, .ref tsv, .ref tsb, .ref tss, .int twt])), (tso, .inl (g.2 0, 6, .inl tfo)), (tsv, .inl (g.2 0, 6, .inl tfv)), (tsb, .inl (g.2 0, 6, .inl tfb)), (tss, .inr (8, [.int tcap, .int tfst, .int tstf, .int tsol]))] (fun A => QV g A (fun (u : Int32 × (Nat → Int32) × (Nat → Int32) × (Nat → Int32) × Int32 × Int32 × Int32 × Int32) => True) (fun (u : Int32 × (Nat → Int32) × (Nat → Int32) × (Nat → Int32) × Int32 × Int32 × Int32 × Int32) => [(sa, .inr (7, [.ref so, .ref sv, .ref sb, .ref ss, .int u.1])), (so, .inl (g.2 0, 6, .inl u.2.1)), (sv, .inl (g.2 0, 6, .inl u.2.2.1)), (sb, .inl (g.2 0, 6, .inl u.2.2.2.1)), (ss, .inr (8, [.int u.2.2.2.2.1, .int u.2.2.2.2.2.1, .int u.2.2.2.2.2.2.1, .int u.2.2.2.2.2.2.2])), (tsa, .inr (7, [.ref tso, .ref tsv, .ref tsb, .ref tss, .int twt])), (tso, .inl (g.2 0, 6, .inl tfo)), (tsv, .inl (g.2 0, 6, .inl tfv)), (tsb, .inl (g.2 0, 6, .inl tfb)), (tss, .inr (8, [.int tcap, .int tfst, .int tstf, .int tsol]))])) := by
  refine Ctr.of (cc := cX7_become) (maxL := 3) (ret := none) (by decide) rfl (Nat.le_of_ble_eq_true rfl) ?_
  intro p e s m below meth c A ls H C hP hD hA hS hl
  obtain ⟨hx, hb, hr, hts, hown, hlocks, hml, hin, hKN⟩ := id C
  have hK := hKN.1
  have hN := hKN.2
  have F : CallFix p m c cX7_become 3 s _ wsX7_become yX7_become.cls := ⟨hx, hb, hml, hown, hts⟩
  have hl : lv_has ls 3 [(0, .ref sa), (1, .ref tsa)] := hl
  refine lv_iconst (v := 0) hx hb dX7_become_0 (by decide) ?_
  refine lv_istore_n (lv' := [(2, .int 0), (0, .ref sa), (1, .ref tsa)]) hx hb dX7_become_1 rfl hl (by decide) rfl (fun ls hl => ?_)
  refine W.loop (α := (Nat → Int32) × (Nat → Int32) × (Nat → Int32) × Int32) (P := fun z ls H locs => lv_has ls 3 [(2, .int z.2.2.2), (0, .ref sa), (1, .ref tsa)] ∧ va_P g.1 vwCl [(sa, .inr (7, [.ref so, .ref sv, .ref sb, .ref ss, .int wt])), (so, .inl (g.2 0, 6, .inl z.1)), (sv, .inl (g.2 0, 6, .inl z.2.1)), (sb, .inl (g.2 0, 6, .inl z.2.2.1)), (ss, .inr (8, [.int cap, .int fst, .int stf, .int sol])), (tsa, .inr (7, [.ref tso, .ref tsv, .ref tsb, .ref tss, .int twt])), (tso, .inl (g.2 0, 6, .inl tfo)), (tsv, .inl (g.2 0, 6, .inl tfv)), (tsb, .inl (g.2 0, 6, .inl tfb)), (tss, .inr (8, [.int tcap, .int tfst, .int tstf, .int tsol]))] H ∧ va_D A [(sa, .inr (7, [.ref so, .ref sv, .ref sb, .ref ss, .int wt])), (so, .inl (g.2 0, 6, .inl z.1)), (sv, .inl (g.2 0, 6, .inl z.2.1)), (sb, .inl (g.2 0, 6, .inl z.2.2.1)), (ss, .inr (8, [.int cap, .int fst, .int stf, .int sol])), (tsa, .inr (7, [.ref tso, .ref tsv, .ref tsb, .ref tss, .int twt])), (tso, .inl (g.2 0, 6, .inl tfo)), (tsv, .inl (g.2 0, 6, .inl tfv)), (tsb, .inl (g.2 0, 6, .inl tfb)), (tss, .inr (8, [.int tcap, .int tfst, .int tstf, .int tsol]))] ∧ va_S A s.heap H locs) (μ := fun z => ((6 : Int32).toInt - (z.2.2.2).toInt).toNat) (fo, fv, fb, 0) ⟨hl, hP, hD, hS⟩ (fun z ls H locs hh ih2 => ?_)
  obtain ⟨aso_2, asv_2, asb_2, l2_2⟩ := z
  try dsimp only at hh ih2
  obtain ⟨hl, hP, hD, hS⟩ := hh
  have hl : lv_has ls 3 [(2, .int l2_2), (0, .ref sa), (1, .ref tsa)] := hl
  replace hP : va_P g.1 vwCl [(sa, .inr (7, [.ref so, .ref sv, .ref sb, .ref ss, .int wt])), (so, .inl (g.2 0, 6, .inl aso_2)), (sv, .inl (g.2 0, 6, .inl asv_2)), (sb, .inl (g.2 0, 6, .inl asb_2)), (ss, .inr (8, [.int cap, .int fst, .int stf, .int sol])), (tsa, .inr (7, [.ref tso, .ref tsv, .ref tsb, .ref tss, .int twt])), (tso, .inl (g.2 0, 6, .inl tfo)), (tsv, .inl (g.2 0, 6, .inl tfv)), (tsb, .inl (g.2 0, 6, .inl tfb)), (tss, .inr (8, [.int tcap, .int tfst, .int tstf, .int tsol]))] H := hP
  replace hD : va_D A [(sa, .inr (7, [.ref so, .ref sv, .ref sb, .ref ss, .int wt])), (so, .inl (g.2 0, 6, .inl aso_2)), (sv, .inl (g.2 0, 6, .inl asv_2)), (sb, .inl (g.2 0, 6, .inl asb_2)), (ss, .inr (8, [.int cap, .int fst, .int stf, .int sol])), (tsa, .inr (7, [.ref tso, .ref tsv, .ref tsb, .ref tss, .int twt])), (tso, .inl (g.2 0, 6, .inl tfo)), (tsv, .inl (g.2 0, 6, .inl tfv)), (tsb, .inl (g.2 0, 6, .inl tfb)), (tss, .inr (8, [.int tcap, .int tfst, .int tstf, .int tsol]))] := hD
  refine lv_iload_n hx hb dX7_become_2 rfl (lv_at hl 0 rfl) ?_
  refine lv_bipush (v := 6) hx hb dX7_become_3 (by decide) ?_
  refine lv_icmp_ge (tgt := 62) hx hb dX7_become_5 (by decide) (fun c1 => ?_) (fun c1 => ?_)
  · refine lv_aload_n hx hb dX7_become_62 rfl (lv_at hl 1 rfl) ?_
    refine va_get (D := g.1) (ci := 7) (v := .ref ss) (C := RX7) (T := TX7) (N := 5) hx hb hts hc_X7_become_X7 hown hK hP 0 rfl rfl 3 (by decide) (hts (.fieldLink RX7 24 "OilPush$State" "store" "LOilPush$Store;") (List.mem_of_getElem? (i := 4) rfl)) (fun _ h => h) rfl dX7_become_63 ?_
    refine lv_aload_n hx hb dX7_become_66 rfl (lv_at hl 2 rfl) ?_
    refine va_get (D := g.1) (ci := 7) (v := .ref tss) (C := RX7) (T := TX7) (N := 5) hx hb hts hc_X7_become_X7 hown hK hP 5 rfl rfl 3 (by decide) (hts (.fieldLink RX7 24 "OilPush$State" "store" "LOilPush$Store;") (List.mem_of_getElem? (i := 4) rfl)) (fun _ h => h) rfl dX7_become_67 ?_
    refine kV (rnV (As := [.ref tss]) (rest := []) (Cn := RX8) C (s_become l g ss cap fst stf sol tss tcap tfst tstf tsol) 1 gX7_become_X8_become rfl (by decide +kernel) ⟨(Nat.le_of_ble_eq_true rfl), (Nat.le_of_ble_eq_true rfl)⟩ hP (k := 4) (ci := 8) rfl rfl rfl rfl hl.1 rfl (Nat.le_of_ble_eq_true rfl) dX7_become_70 ⟨(Nat.le_of_ble_eq_true rfl), (Nat.le_of_ble_eq_true rfl)⟩) (spM0 [false, false, false, false, true, false, false, false, false, true] hP hD rfl) hA hS (fun u3 H locs hw hP hD hS => ?_)
    obtain ⟨x4, x5, x6, x7⟩ := u3
    replace hP : va_P g.1 vwCl [(sa, .inr (7, [.ref so, .ref sv, .ref sb, .ref ss, .int wt])), (so, .inl (g.2 0, 6, .inl aso_2)), (sv, .inl (g.2 0, 6, .inl asv_2)), (sb, .inl (g.2 0, 6, .inl asb_2)), (ss, .inr (8, [.int x4, .int x5, .int x6, .int x7])), (tsa, .inr (7, [.ref tso, .ref tsv, .ref tsb, .ref tss, .int twt])), (tso, .inl (g.2 0, 6, .inl tfo)), (tsv, .inl (g.2 0, 6, .inl tfv)), (tsb, .inl (g.2 0, 6, .inl tfb)), (tss, .inr (8, [.int tcap, .int tfst, .int tstf, .int tsol]))] H := hP
    replace hD : va_D A [(sa, .inr (7, [.ref so, .ref sv, .ref sb, .ref ss, .int wt])), (so, .inl (g.2 0, 6, .inl aso_2)), (sv, .inl (g.2 0, 6, .inl asv_2)), (sb, .inl (g.2 0, 6, .inl asb_2)), (ss, .inr (8, [.int x4, .int x5, .int x6, .int x7])), (tsa, .inr (7, [.ref tso, .ref tsv, .ref tsb, .ref tss, .int twt])), (tso, .inl (g.2 0, 6, .inl tfo)), (tsv, .inl (g.2 0, 6, .inl tfv)), (tsb, .inl (g.2 0, 6, .inl tfb)), (tss, .inr (8, [.int tcap, .int tfst, .int tstf, .int tsol]))] := hD
    refine lv_aload_n hx hb dX7_become_73 rfl (lv_at hl 1 rfl) ?_
    refine lv_aload_n hx hb dX7_become_74 rfl (lv_at hl 2 rfl) ?_
    refine va_get (D := g.1) (ci := 7) (v := .int twt) (C := RX7) (T := TX7) (N := 5) hx hb hts hc_X7_become_X7 hown hK hP 5 rfl rfl 4 (by decide) (hts (.fieldLink RX7 40 "OilPush$State" "waits" "I") (List.mem_of_getElem? (i := 5) rfl)) (fun _ h => h) rfl dX7_become_75 ?_
    refine va_put (D := g.1) (ci := 7) (v := .int twt) (ty := .int) (C := RX7) (T := TX7) (N := 5) hx hb hts hc_X7_become_X7 tyX7 tyX7_ok nmX7 hown hK hP hD hS 0 rfl rfl 4 (by decide) (hts (.fieldLink RX7 40 "OilPush$State" "waits" "I") (List.mem_of_getElem? (i := 5) rfl)) (fun _ h => h) rfl (by decide +kernel) rfl rfl (Nat.le_of_ble_eq_true rfl) dX7_become_78 (fun H locs hP hD hS => ?_)
    replace hP : va_P g.1 vwCl [(sa, .inr (7, [.ref so, .ref sv, .ref sb, .ref ss, .int twt])), (so, .inl (g.2 0, 6, .inl aso_2)), (sv, .inl (g.2 0, 6, .inl asv_2)), (sb, .inl (g.2 0, 6, .inl asb_2)), (ss, .inr (8, [.int x4, .int x5, .int x6, .int x7])), (tsa, .inr (7, [.ref tso, .ref tsv, .ref tsb, .ref tss, .int twt])), (tso, .inl (g.2 0, 6, .inl tfo)), (tsv, .inl (g.2 0, 6, .inl tfv)), (tsb, .inl (g.2 0, 6, .inl tfb)), (tss, .inr (8, [.int tcap, .int tfst, .int tstf, .int tsol]))] H := hP
    replace hD : va_D A [(sa, .inr (7, [.ref so, .ref sv, .ref sb, .ref ss, .int twt])), (so, .inl (g.2 0, 6, .inl aso_2)), (sv, .inl (g.2 0, 6, .inl asv_2)), (sb, .inl (g.2 0, 6, .inl asb_2)), (ss, .inr (8, [.int x4, .int x5, .int x6, .int x7])), (tsa, .inr (7, [.ref tso, .ref tsv, .ref tsb, .ref tss, .int twt])), (tso, .inl (g.2 0, 6, .inl tfo)), (tsv, .inl (g.2 0, 6, .inl tfv)), (tsb, .inl (g.2 0, 6, .inl tfb)), (tss, .inr (8, [.int tcap, .int tfst, .int tstf, .int tsol]))] := hD
    exact retV C hS (twt, aso_2, asv_2, asb_2, x4, x5, x6, x7) trivial hP hD (Nat.le_of_ble_eq_true rfl) (Nat.le_of_ble_eq_true rfl) dX7_become_81
  refine lv_aload_n hx hb dX7_become_8 rfl (lv_at hl 1 rfl) ?_
  refine va_get (D := g.1) (ci := 7) (v := .ref so) (C := RX7) (T := TX7) (N := 5) hx hb hts hc_X7_become_X7 hown hK hP 0 rfl rfl 0 (by decide) (hts (.fieldLink RX7 9 "OilPush$State" "oil" "[I") (List.mem_of_getElem? (i := 1) rfl)) (fun _ h => h) rfl dX7_become_9 ?_
  refine lv_iload_n hx hb dX7_become_12 rfl (lv_at hl 0 rfl) ?_
  refine lv_aload_n hx hb dX7_become_13 rfl (lv_at hl 2 rfl) ?_
  refine va_get (D := g.1) (ci := 7) (v := .ref tso) (C := RX7) (T := TX7) (N := 5) hx hb hts hc_X7_become_X7 hown hK hP 5 rfl rfl 0 (by decide) (hts (.fieldLink RX7 9 "OilPush$State" "oil" "[I") (List.mem_of_getElem? (i := 1) rfl)) (fun _ h => h) rfl dX7_become_14 ?_
  refine lv_iload_n hx hb dX7_become_17 rfl (lv_at hl 0 rfl) ?_
  refine kI (rnN (host := "OilPush") (As := [.ref tso, .int l2_2]) (rest := [.int l2_2, .ref so]) C (c_get l g tso 6 tfo l2_2 (by decide)) 2 gX7_become_X11_get_n28 rfl (nst_16 hN) (by decide +kernel) (by decide +kernel) (by decide +kernel) ⟨(Nat.le_of_ble_eq_true rfl), (Nat.le_of_ble_eq_true rfl)⟩ rfl hl.1 rfl (Nat.le_of_ble_eq_true rfl) dX7_become_18 ⟨(Nat.le_of_ble_eq_true rfl), (Nat.le_of_ble_eq_true rfl)⟩) (spM0 [false, false, false, false, false, false, true, false, false, false] hP hD rfl) hA hS (fun r8 u9 H locs hw hP hD hS => ?_)
  have hre := hw
  replace hP : va_P g.1 vwCl [(sa, .inr (7, [.ref so, .ref sv, .ref sb, .ref ss, .int wt])), (so, .inl (g.2 0, 6, .inl aso_2)), (sv, .inl (g.2 0, 6, .inl asv_2)), (sb, .inl (g.2 0, 6, .inl asb_2)), (ss, .inr (8, [.int cap, .int fst, .int stf, .int sol])), (tsa, .inr (7, [.ref tso, .ref tsv, .ref tsb, .ref tss, .int twt])), (tso, .inl (g.2 0, 6, .inl tfo)), (tsv, .inl (g.2 0, 6, .inl tfv)), (tsb, .inl (g.2 0, 6, .inl tfb)), (tss, .inr (8, [.int tcap, .int tfst, .int tstf, .int tsol]))] H := hP
  replace hD : va_D A [(sa, .inr (7, [.ref so, .ref sv, .ref sb, .ref ss, .int wt])), (so, .inl (g.2 0, 6, .inl aso_2)), (sv, .inl (g.2 0, 6, .inl asv_2)), (sb, .inl (g.2 0, 6, .inl asb_2)), (ss, .inr (8, [.int cap, .int fst, .int stf, .int sol])), (tsa, .inr (7, [.ref tso, .ref tsv, .ref tsb, .ref tss, .int twt])), (tso, .inl (g.2 0, 6, .inl tfo)), (tsv, .inl (g.2 0, 6, .inl tfv)), (tsb, .inl (g.2 0, 6, .inl tfb)), (tss, .inr (8, [.int tcap, .int tfst, .int tstf, .int tsol]))] := hD
  refine nx_i (v := (r_c_get 6 tfo l2_2)) hre ?_
  refine kV (rnN (host := "OilPush") (As := [.ref so, .int l2_2, .int (r_c_get 6 tfo l2_2)]) (rest := []) C (c_set l g so 6 aso_2 l2_2 (r_c_get 6 tfo l2_2) (by decide)) 3 gX7_become_X11_set_n32 rfl (nst_17 hN) (by decide +kernel) (by decide +kernel) (by decide +kernel) ⟨(Nat.le_of_ble_eq_true rfl), (Nat.le_of_ble_eq_true rfl)⟩ rfl hl.1 rfl (Nat.le_of_ble_eq_true rfl) dX7_become_21 ⟨(Nat.le_of_ble_eq_true rfl), (Nat.le_of_ble_eq_true rfl)⟩) (spM0 [false, true, false, false, false, false, false, false, false, false] hP hD rfl) hA hS (fun u11 H locs hw hP hD hS => ?_)
  replace hP : va_P g.1 vwCl [(sa, .inr (7, [.ref so, .ref sv, .ref sb, .ref ss, .int wt])), (so, .inl (g.2 0, 6, .inl (r_c_set 6 aso_2 l2_2 (r_c_get 6 tfo l2_2)))), (sv, .inl (g.2 0, 6, .inl asv_2)), (sb, .inl (g.2 0, 6, .inl asb_2)), (ss, .inr (8, [.int cap, .int fst, .int stf, .int sol])), (tsa, .inr (7, [.ref tso, .ref tsv, .ref tsb, .ref tss, .int twt])), (tso, .inl (g.2 0, 6, .inl tfo)), (tsv, .inl (g.2 0, 6, .inl tfv)), (tsb, .inl (g.2 0, 6, .inl tfb)), (tss, .inr (8, [.int tcap, .int tfst, .int tstf, .int tsol]))] H := hP
  replace hD : va_D A [(sa, .inr (7, [.ref so, .ref sv, .ref sb, .ref ss, .int wt])), (so, .inl (g.2 0, 6, .inl (r_c_set 6 aso_2 l2_2 (r_c_get 6 tfo l2_2)))), (sv, .inl (g.2 0, 6, .inl asv_2)), (sb, .inl (g.2 0, 6, .inl asb_2)), (ss, .inr (8, [.int cap, .int fst, .int stf, .int sol])), (tsa, .inr (7, [.ref tso, .ref tsv, .ref tsb, .ref tss, .int twt])), (tso, .inl (g.2 0, 6, .inl tfo)), (tsv, .inl (g.2 0, 6, .inl tfv)), (tsb, .inl (g.2 0, 6, .inl tfb)), (tss, .inr (8, [.int tcap, .int tfst, .int tstf, .int tsol]))] := hD
  refine lv_aload_n hx hb dX7_become_24 rfl (lv_at hl 1 rfl) ?_
  refine va_get (D := g.1) (ci := 7) (v := .ref sv) (C := RX7) (T := TX7) (N := 5) hx hb hts hc_X7_become_X7 hown hK hP 0 rfl rfl 1 (by decide) (hts (.fieldLink RX7 15 "OilPush$State" "valve" "[I") (List.mem_of_getElem? (i := 2) rfl)) (fun _ h => h) rfl dX7_become_25 ?_
  refine lv_iload_n hx hb dX7_become_28 rfl (lv_at hl 0 rfl) ?_
  refine lv_aload_n hx hb dX7_become_29 rfl (lv_at hl 2 rfl) ?_
  refine va_get (D := g.1) (ci := 7) (v := .ref tsv) (C := RX7) (T := TX7) (N := 5) hx hb hts hc_X7_become_X7 hown hK hP 5 rfl rfl 1 (by decide) (hts (.fieldLink RX7 15 "OilPush$State" "valve" "[I") (List.mem_of_getElem? (i := 2) rfl)) (fun _ h => h) rfl dX7_become_30 ?_
  refine lv_iload_n hx hb dX7_become_33 rfl (lv_at hl 0 rfl) ?_
  refine kI (rnN (host := "OilPush") (As := [.ref tsv, .int l2_2]) (rest := [.int l2_2, .ref sv]) C (c_get l g tsv 6 tfv l2_2 (by decide)) 2 gX7_become_X11_get_n28 rfl (nst_16 hN) (by decide +kernel) (by decide +kernel) (by decide +kernel) ⟨(Nat.le_of_ble_eq_true rfl), (Nat.le_of_ble_eq_true rfl)⟩ rfl hl.1 rfl (Nat.le_of_ble_eq_true rfl) dX7_become_34 ⟨(Nat.le_of_ble_eq_true rfl), (Nat.le_of_ble_eq_true rfl)⟩) (spM0 [false, false, false, false, false, false, false, true, false, false] hP hD rfl) hA hS (fun r12 u13 H locs hw hP hD hS => ?_)
  have hre := hw
  replace hP : va_P g.1 vwCl [(sa, .inr (7, [.ref so, .ref sv, .ref sb, .ref ss, .int wt])), (so, .inl (g.2 0, 6, .inl (r_c_set 6 aso_2 l2_2 (r_c_get 6 tfo l2_2)))), (sv, .inl (g.2 0, 6, .inl asv_2)), (sb, .inl (g.2 0, 6, .inl asb_2)), (ss, .inr (8, [.int cap, .int fst, .int stf, .int sol])), (tsa, .inr (7, [.ref tso, .ref tsv, .ref tsb, .ref tss, .int twt])), (tso, .inl (g.2 0, 6, .inl tfo)), (tsv, .inl (g.2 0, 6, .inl tfv)), (tsb, .inl (g.2 0, 6, .inl tfb)), (tss, .inr (8, [.int tcap, .int tfst, .int tstf, .int tsol]))] H := hP
  replace hD : va_D A [(sa, .inr (7, [.ref so, .ref sv, .ref sb, .ref ss, .int wt])), (so, .inl (g.2 0, 6, .inl (r_c_set 6 aso_2 l2_2 (r_c_get 6 tfo l2_2)))), (sv, .inl (g.2 0, 6, .inl asv_2)), (sb, .inl (g.2 0, 6, .inl asb_2)), (ss, .inr (8, [.int cap, .int fst, .int stf, .int sol])), (tsa, .inr (7, [.ref tso, .ref tsv, .ref tsb, .ref tss, .int twt])), (tso, .inl (g.2 0, 6, .inl tfo)), (tsv, .inl (g.2 0, 6, .inl tfv)), (tsb, .inl (g.2 0, 6, .inl tfb)), (tss, .inr (8, [.int tcap, .int tfst, .int tstf, .int tsol]))] := hD
  refine nx_i (v := (r_c_get 6 tfv l2_2)) hre ?_
  refine kV (rnN (host := "OilPush") (As := [.ref sv, .int l2_2, .int (r_c_get 6 tfv l2_2)]) (rest := []) C (c_set l g sv 6 asv_2 l2_2 (r_c_get 6 tfv l2_2) (by decide)) 3 gX7_become_X11_set_n32 rfl (nst_17 hN) (by decide +kernel) (by decide +kernel) (by decide +kernel) ⟨(Nat.le_of_ble_eq_true rfl), (Nat.le_of_ble_eq_true rfl)⟩ rfl hl.1 rfl (Nat.le_of_ble_eq_true rfl) dX7_become_37 ⟨(Nat.le_of_ble_eq_true rfl), (Nat.le_of_ble_eq_true rfl)⟩) (spM0 [false, false, true, false, false, false, false, false, false, false] hP hD rfl) hA hS (fun u15 H locs hw hP hD hS => ?_)
  replace hP : va_P g.1 vwCl [(sa, .inr (7, [.ref so, .ref sv, .ref sb, .ref ss, .int wt])), (so, .inl (g.2 0, 6, .inl (r_c_set 6 aso_2 l2_2 (r_c_get 6 tfo l2_2)))), (sv, .inl (g.2 0, 6, .inl (r_c_set 6 asv_2 l2_2 (r_c_get 6 tfv l2_2)))), (sb, .inl (g.2 0, 6, .inl asb_2)), (ss, .inr (8, [.int cap, .int fst, .int stf, .int sol])), (tsa, .inr (7, [.ref tso, .ref tsv, .ref tsb, .ref tss, .int twt])), (tso, .inl (g.2 0, 6, .inl tfo)), (tsv, .inl (g.2 0, 6, .inl tfv)), (tsb, .inl (g.2 0, 6, .inl tfb)), (tss, .inr (8, [.int tcap, .int tfst, .int tstf, .int tsol]))] H := hP
  replace hD : va_D A [(sa, .inr (7, [.ref so, .ref sv, .ref sb, .ref ss, .int wt])), (so, .inl (g.2 0, 6, .inl (r_c_set 6 aso_2 l2_2 (r_c_get 6 tfo l2_2)))), (sv, .inl (g.2 0, 6, .inl (r_c_set 6 asv_2 l2_2 (r_c_get 6 tfv l2_2)))), (sb, .inl (g.2 0, 6, .inl asb_2)), (ss, .inr (8, [.int cap, .int fst, .int stf, .int sol])), (tsa, .inr (7, [.ref tso, .ref tsv, .ref tsb, .ref tss, .int twt])), (tso, .inl (g.2 0, 6, .inl tfo)), (tsv, .inl (g.2 0, 6, .inl tfv)), (tsb, .inl (g.2 0, 6, .inl tfb)), (tss, .inr (8, [.int tcap, .int tfst, .int tstf, .int tsol]))] := hD
  refine lv_aload_n hx hb dX7_become_40 rfl (lv_at hl 1 rfl) ?_
  refine va_get (D := g.1) (ci := 7) (v := .ref sb) (C := RX7) (T := TX7) (N := 5) hx hb hts hc_X7_become_X7 hown hK hP 0 rfl rfl 2 (by decide) (hts (.fieldLink RX7 18 "OilPush$State" "burst" "[I") (List.mem_of_getElem? (i := 3) rfl)) (fun _ h => h) rfl dX7_become_41 ?_
  refine lv_iload_n hx hb dX7_become_44 rfl (lv_at hl 0 rfl) ?_
  refine lv_aload_n hx hb dX7_become_45 rfl (lv_at hl 2 rfl) ?_
  refine va_get (D := g.1) (ci := 7) (v := .ref tsb) (C := RX7) (T := TX7) (N := 5) hx hb hts hc_X7_become_X7 hown hK hP 5 rfl rfl 2 (by decide) (hts (.fieldLink RX7 18 "OilPush$State" "burst" "[I") (List.mem_of_getElem? (i := 3) rfl)) (fun _ h => h) rfl dX7_become_46 ?_
  refine lv_iload_n hx hb dX7_become_49 rfl (lv_at hl 0 rfl) ?_
  refine kI (rnN (host := "OilPush") (As := [.ref tsb, .int l2_2]) (rest := [.int l2_2, .ref sb]) C (c_get l g tsb 6 tfb l2_2 (by decide)) 2 gX7_become_X11_get_n28 rfl (nst_16 hN) (by decide +kernel) (by decide +kernel) (by decide +kernel) ⟨(Nat.le_of_ble_eq_true rfl), (Nat.le_of_ble_eq_true rfl)⟩ rfl hl.1 rfl (Nat.le_of_ble_eq_true rfl) dX7_become_50 ⟨(Nat.le_of_ble_eq_true rfl), (Nat.le_of_ble_eq_true rfl)⟩) (spM0 [false, false, false, false, false, false, false, false, true, false] hP hD rfl) hA hS (fun r16 u17 H locs hw hP hD hS => ?_)
  have hre := hw
  replace hP : va_P g.1 vwCl [(sa, .inr (7, [.ref so, .ref sv, .ref sb, .ref ss, .int wt])), (so, .inl (g.2 0, 6, .inl (r_c_set 6 aso_2 l2_2 (r_c_get 6 tfo l2_2)))), (sv, .inl (g.2 0, 6, .inl (r_c_set 6 asv_2 l2_2 (r_c_get 6 tfv l2_2)))), (sb, .inl (g.2 0, 6, .inl asb_2)), (ss, .inr (8, [.int cap, .int fst, .int stf, .int sol])), (tsa, .inr (7, [.ref tso, .ref tsv, .ref tsb, .ref tss, .int twt])), (tso, .inl (g.2 0, 6, .inl tfo)), (tsv, .inl (g.2 0, 6, .inl tfv)), (tsb, .inl (g.2 0, 6, .inl tfb)), (tss, .inr (8, [.int tcap, .int tfst, .int tstf, .int tsol]))] H := hP
  replace hD : va_D A [(sa, .inr (7, [.ref so, .ref sv, .ref sb, .ref ss, .int wt])), (so, .inl (g.2 0, 6, .inl (r_c_set 6 aso_2 l2_2 (r_c_get 6 tfo l2_2)))), (sv, .inl (g.2 0, 6, .inl (r_c_set 6 asv_2 l2_2 (r_c_get 6 tfv l2_2)))), (sb, .inl (g.2 0, 6, .inl asb_2)), (ss, .inr (8, [.int cap, .int fst, .int stf, .int sol])), (tsa, .inr (7, [.ref tso, .ref tsv, .ref tsb, .ref tss, .int twt])), (tso, .inl (g.2 0, 6, .inl tfo)), (tsv, .inl (g.2 0, 6, .inl tfv)), (tsb, .inl (g.2 0, 6, .inl tfb)), (tss, .inr (8, [.int tcap, .int tfst, .int tstf, .int tsol]))] := hD
  refine nx_i (v := (r_c_get 6 tfb l2_2)) hre ?_
  refine kV (rnN (host := "OilPush") (As := [.ref sb, .int l2_2, .int (r_c_get 6 tfb l2_2)]) (rest := []) C (c_set l g sb 6 asb_2 l2_2 (r_c_get 6 tfb l2_2) (by decide)) 3 gX7_become_X11_set_n32 rfl (nst_17 hN) (by decide +kernel) (by decide +kernel) (by decide +kernel) ⟨(Nat.le_of_ble_eq_true rfl), (Nat.le_of_ble_eq_true rfl)⟩ rfl hl.1 rfl (Nat.le_of_ble_eq_true rfl) dX7_become_53 ⟨(Nat.le_of_ble_eq_true rfl), (Nat.le_of_ble_eq_true rfl)⟩) (spM0 [false, false, false, true, false, false, false, false, false, false] hP hD rfl) hA hS (fun u19 H locs hw hP hD hS => ?_)
  replace hP : va_P g.1 vwCl [(sa, .inr (7, [.ref so, .ref sv, .ref sb, .ref ss, .int wt])), (so, .inl (g.2 0, 6, .inl (r_c_set 6 aso_2 l2_2 (r_c_get 6 tfo l2_2)))), (sv, .inl (g.2 0, 6, .inl (r_c_set 6 asv_2 l2_2 (r_c_get 6 tfv l2_2)))), (sb, .inl (g.2 0, 6, .inl (r_c_set 6 asb_2 l2_2 (r_c_get 6 tfb l2_2)))), (ss, .inr (8, [.int cap, .int fst, .int stf, .int sol])), (tsa, .inr (7, [.ref tso, .ref tsv, .ref tsb, .ref tss, .int twt])), (tso, .inl (g.2 0, 6, .inl tfo)), (tsv, .inl (g.2 0, 6, .inl tfv)), (tsb, .inl (g.2 0, 6, .inl tfb)), (tss, .inr (8, [.int tcap, .int tfst, .int tstf, .int tsol]))] H := hP
  replace hD : va_D A [(sa, .inr (7, [.ref so, .ref sv, .ref sb, .ref ss, .int wt])), (so, .inl (g.2 0, 6, .inl (r_c_set 6 aso_2 l2_2 (r_c_get 6 tfo l2_2)))), (sv, .inl (g.2 0, 6, .inl (r_c_set 6 asv_2 l2_2 (r_c_get 6 tfv l2_2)))), (sb, .inl (g.2 0, 6, .inl (r_c_set 6 asb_2 l2_2 (r_c_get 6 tfb l2_2)))), (ss, .inr (8, [.int cap, .int fst, .int stf, .int sol])), (tsa, .inr (7, [.ref tso, .ref tsv, .ref tsb, .ref tss, .int twt])), (tso, .inl (g.2 0, 6, .inl tfo)), (tsv, .inl (g.2 0, 6, .inl tfv)), (tsb, .inl (g.2 0, 6, .inl tfb)), (tss, .inr (8, [.int tcap, .int tfst, .int tstf, .int tsol]))] := hD
  refine lv_iinc (v := (l2_2 + 1)) (lv' := [(2, .int (l2_2 + 1)), (0, .ref sa), (1, .ref tsa)]) hx hb dX7_become_56 hl (k := 0) rfl rfl (by decide) rfl (fun ls hl => ?_)
  refine lv_goto (tgt := 2) hx hb dX7_become_59 (by decide) ?_
  exact ih2 ((r_c_set 6 aso_2 l2_2 (r_c_get 6 tfo l2_2)), (r_c_set 6 asv_2 l2_2 (r_c_get 6 tfv l2_2)), (r_c_set 6 asb_2 l2_2 (r_c_get 6 tfb l2_2)), (l2_2 + 1)) ls H locs ⟨lv_sub hl [0, 1, 2] rfl, hP, hD, hS⟩ (inc_mu2 c1)
theorem hc_X1_give_X1 : ∀ w ∈ wsX10, w ∈ wsX1_give := fun w h => List.mem_cons_of_mem _ (List.mem_append_left _ (List.mem_append_right _ h))
theorem hc_X1_give_X7 : ∀ w ∈ wsX70, w ∈ wsX1_give := fun w h => List.mem_cons_of_mem _ (List.mem_append_right _ h)
theorem hc_X1_queue_X1 : ∀ w ∈ wsX10, w ∈ wsX1_queue := fun w h => List.mem_cons_of_mem _ (List.mem_append_right _ h)
theorem hc_X1_takeFromPump_X1 : ∀ w ∈ wsX10, w ∈ wsX1_takeFromPump := fun w h => List.mem_cons_of_mem _ (List.mem_append_left _ (List.mem_append_right _ h))
theorem hc_X1_addUp_X1 : ∀ w ∈ wsX10, w ∈ wsX1_addUp := fun w h => List.mem_cons_of_mem _ (List.mem_append_left _ (List.mem_append_right _ h))
theorem hc_X1_addUp_X4 : ∀ w ∈ wsX40, w ∈ wsX1_addUp := fun w h => List.mem_cons_of_mem _ (List.mem_append_right _ h)
theorem hc_X1_takeFromStore_X1 : ∀ w ∈ wsX10, w ∈ wsX1_takeFromStore := fun w h => List.mem_cons_of_mem _ (List.mem_append_left _ (List.mem_append_left _ (List.mem_append_right _ h)))
theorem hc_X1_takeFromStore_X7 : ∀ w ∈ wsX70, w ∈ wsX1_takeFromStore := fun w h => List.mem_cons_of_mem _ (List.mem_append_left _ (List.mem_append_right _ h))
theorem hc_X1_takeFromStore_X8 : ∀ w ∈ wsX80, w ∈ wsX1_takeFromStore := fun w h => List.mem_cons_of_mem _ (List.mem_append_right _ h)
theorem hc_X1_mostLost_X0 : ∀ w ∈ wsX00, w ∈ wsX1_mostLost := fun w h => List.mem_cons_of_mem _ (List.mem_append_left _ (List.mem_append_left _ (List.mem_append_right _ h)))
theorem hc_X1_mostLost_X10 : ∀ w ∈ wsX100, w ∈ wsX1_mostLost := fun w h => List.mem_cons_of_mem _ (List.mem_append_right _ h)
theorem hc_X1_mostLost_X2 : ∀ w ∈ wsX20, w ∈ wsX1_mostLost := fun w h => List.mem_cons_of_mem _ (List.mem_append_left _ (List.mem_append_right _ h))
theorem hc_X1_mostLost_X7 : ∀ w ∈ wsX70, w ∈ wsX1_mostLost := fun w h => List.mem_cons_of_mem _ (List.mem_append_left _ (List.mem_append_left _ (List.mem_append_left _ (List.mem_append_right _ h))))
