theorem hw_X12_about_X12 : ∀ w ∈ wsX120, w ∈ wsX12_about := fun w h => List.mem_cons_of_mem _ (List.mem_append_right _ h)
set_option maxRecDepth 100000 in
set_option maxHeartbeats 4000000 in
theorem w_about (l : Launch) (g : Gt) (h0 : Nat) (q : Nat → Nat) (i : Nat → Int32) (L : Nat → Int64) (a11 : Nat → Int32) (a12 : Nat → Int32) (a9 : Nat → Int32) (a10 : Nat → Int32) (a13 : Nat → Int32) (a8 : Nat → Int32) (a14 : Nat → Int32) (a17 : Nat → Int32) (a18 : Nat → Int32) (a19 : Nat → Int32) (cy : Int32) (what : Int32) (h7 : 0 ≤ (i 7).toInt ∧ (i 7).toInt ≤ 6) (hM : MCI i a9 a10 a12) (hO : OB a11) : Ctr l g yX12_about wsX12_about ({ frames := 3, cells := 0, slots := 0, locals := 65 } : Room) [.ref h0, .int cy, .int what] [(h0, .inr (12, mO q i L)), ((q 11), .inl (g.2 0, 6, .inl a11)), ((q 12), .inl (g.2 0, 6, .inl a12)), ((q 9), .inl (g.2 0, 6, .inl a9)), ((q 10), .inl (g.2 0, 6, .inl a10)), ((q 13), .inl (g.2 0, 60, .inl a13)), ((q 8), .inl (g.2 0, 6, .inl a8)), ((q 14), .inl (g.2 0, 6, .inl a14)), ((q 17), .inl (g.2 0, 6, .inl a17)), ((q 18), .inl (g.2 1, 6, .inl a18)), ((q 19), .inl (g.2 0, 6, .inl a19))] (fun A => QI g A (fun r (u : Unit) => True) (fun (u : Unit) => [(h0, .inr (12, mO q i L)), ((q 11), .inl (g.2 0, 6, .inl a11)), ((q 12), .inl (g.2 0, 6, .inl a12)), ((q 9), .inl (g.2 0, 6, .inl a9)), ((q 10), .inl (g.2 0, 6, .inl a10)), ((q 13), .inl (g.2 0, 60, .inl a13)), ((q 8), .inl (g.2 0, 6, .inl a8)), ((q 14), .inl (g.2 0, 6, .inl a14)), ((q 17), .inl (g.2 0, 6, .inl a17)), ((q 18), .inl (g.2 1, 6, .inl a18)), ((q 19), .inl (g.2 0, 6, .inl a19))])) := by
  refine Ctr.of (cc := cX12_about) (maxL := 3) (ret := (some .int)) (by decide) rfl (Nat.le_of_ble_eq_true rfl) ?_
  intro p e s m below meth c A ls H C hP hD hA hS hl
  obtain ⟨hx, hb, hr, hts, hown, hlocks, hml, hin, hKN⟩ := id C
  have hK := hKN.1
  have hN := hKN.2
  have F : CallFix p m c cX12_about 3 s _ wsX12_about yX12_about.cls := ⟨hx, hb, hml, hown, hts⟩
  have hl : lv_has ls 3 [(0, .ref h0), (1, .int cy), (2, .int what)] := hl
  refine lv_aload_n hx hb dX12_about_0 rfl (lv_at hl 0 rfl) ?_
  refine lv_iload_n hx hb dX12_about_1 rfl (lv_at hl 1 rfl) ?_
  refine kI (rnV (As := [.int cy]) (rest := []) (Cn := RX12) C (g_noCylinder l g h0 q i L cy) 1 gX12_about_X12_noCylinder rfl (by decide +kernel) ⟨(Nat.le_of_ble_eq_true rfl), (Nat.le_of_ble_eq_true rfl)⟩ hP (k := 0) (ci := 12) rfl rfl rfl rfl hl.1 rfl (Nat.le_of_ble_eq_true rfl) dX12_about_2 ⟨(Nat.le_of_ble_eq_true rfl), (Nat.le_of_ble_eq_true rfl)⟩) (spM0 [true, false, false, false, false, false, false, false, false, false, false] hP hD rfl) hA hS (fun r1 u2 H locs hw hP hD hS => ?_)
  have hre := hw
  replace hP : va_P g.1 vwCl [(h0, .inr (12, mO q i L)), ((q 11), .inl (g.2 0, 6, .inl a11)), ((q 12), .inl (g.2 0, 6, .inl a12)), ((q 9), .inl (g.2 0, 6, .inl a9)), ((q 10), .inl (g.2 0, 6, .inl a10)), ((q 13), .inl (g.2 0, 60, .inl a13)), ((q 8), .inl (g.2 0, 6, .inl a8)), ((q 14), .inl (g.2 0, 6, .inl a14)), ((q 17), .inl (g.2 0, 6, .inl a17)), ((q 18), .inl (g.2 1, 6, .inl a18)), ((q 19), .inl (g.2 0, 6, .inl a19))] H := hP
  replace hD : va_D A [(h0, .inr (12, mO q i L)), ((q 11), .inl (g.2 0, 6, .inl a11)), ((q 12), .inl (g.2 0, 6, .inl a12)), ((q 9), .inl (g.2 0, 6, .inl a9)), ((q 10), .inl (g.2 0, 6, .inl a10)), ((q 13), .inl (g.2 0, 60, .inl a13)), ((q 8), .inl (g.2 0, 6, .inl a8)), ((q 14), .inl (g.2 0, 6, .inl a14)), ((q 17), .inl (g.2 0, 6, .inl a17)), ((q 18), .inl (g.2 1, 6, .inl a18)), ((q 19), .inl (g.2 0, 6, .inl a19))] := hD
  refine nx_i (v := (r_g_noCylinder i cy)) hre ?_
  refine lv_if_eq (tgt := 10) hx hb dX12_about_5 (by decide) (fun c3 => ?_) (fun c3 => ?_)
  · refine lv_iload_n hx hb dX12_about_10 rfl (lv_at hl 2 rfl) ?_
    by_cases w4 : what = 0
    · refine lv_tableIn (tgt := 64) (off := 53) hx hb dX12_about_11 (by rw [w4]; decide) (by rw [w4]; decide) (by rw [w4]; rfl) (by decide) ?_
      refine lv_aload_n hx hb dX12_about_64 rfl (lv_at hl 0 rfl) ?_
      refine va_get (D := g.1) (ci := 12) (v := .ref (q 8)) (C := RX12) (T := TX12) (N := 66) hx hb hts hw_X12_about_X12 hown hK hP 0 rfl rfl 8 (by decide) (hts (.fieldLink RX12 22 "OilPushModel" "kind" "[I") (List.mem_of_getElem? (i := 1) rfl)) (fun _ h => h) rfl dX12_about_65 ?_
      refine lv_iload_n hx hb dX12_about_68 rfl (lv_at hl 1 rfl) ?_
      refine va_iald hx hb hK hP 6 0 rfl rfl (noCyl_in h7 c3).1 dX12_about_69 ?_
      exact retI C hS () trivial hP hD (Nat.le_of_ble_eq_true rfl) (Nat.le_of_ble_eq_true rfl) dX12_about_70
    by_cases w5 : what = 1
    · refine lv_tableIn (tgt := 71) (off := 60) hx hb dX12_about_11 (by rw [w5]; decide) (by rw [w5]; decide) (by rw [w5]; rfl) (by decide) ?_
      refine lv_aload_n hx hb dX12_about_71 rfl (lv_at hl 0 rfl) ?_
      refine va_get (D := g.1) (ci := 12) (v := .ref (q 9)) (C := RX12) (T := TX12) (N := 66) hx hb hts hw_X12_about_X12 hown hK hP 0 rfl rfl 9 (by decide) (hts (.fieldLink RX12 25 "OilPushModel" "area" "[I") (List.mem_of_getElem? (i := 2) rfl)) (fun _ h => h) rfl dX12_about_72 ?_
      refine lv_iload_n hx hb dX12_about_75 rfl (lv_at hl 1 rfl) ?_
      refine va_iald hx hb hK hP 3 0 rfl rfl (noCyl_in h7 c3).1 dX12_about_76 ?_
      exact retI C hS () trivial hP hD (Nat.le_of_ble_eq_true rfl) (Nat.le_of_ble_eq_true rfl) dX12_about_77
    by_cases w6 : what = 2
    · refine lv_tableIn (tgt := 78) (off := 67) hx hb dX12_about_11 (by rw [w6]; decide) (by rw [w6]; decide) (by rw [w6]; rfl) (by decide) ?_
      refine lv_aload_n hx hb dX12_about_78 rfl (lv_at hl 0 rfl) ?_
      refine va_get (D := g.1) (ci := 12) (v := .ref (q 10)) (C := RX12) (T := TX12) (N := 66) hx hb hts hw_X12_about_X12 hown hK hP 0 rfl rfl 10 (by decide) (hts (.fieldLink RX12 28 "OilPushModel" "stroke" "[I") (List.mem_of_getElem? (i := 3) rfl)) (fun _ h => h) rfl dX12_about_79 ?_
      refine lv_iload_n hx hb dX12_about_82 rfl (lv_at hl 1 rfl) ?_
      refine va_iald hx hb hK hP 4 0 rfl rfl (noCyl_in h7 c3).1 dX12_about_83 ?_
      exact retI C hS () trivial hP hD (Nat.le_of_ble_eq_true rfl) (Nat.le_of_ble_eq_true rfl) dX12_about_84
    by_cases w7 : what = 3
    · refine lv_tableIn (tgt := 85) (off := 74) hx hb dX12_about_11 (by rw [w7]; decide) (by rw [w7]; decide) (by rw [w7]; rfl) (by decide) ?_
      refine lv_aload_n hx hb dX12_about_85 rfl (lv_at hl 0 rfl) ?_
      refine va_get (D := g.1) (ci := 12) (v := .ref (q 11)) (C := RX12) (T := TX12) (N := 66) hx hb hts hw_X12_about_X12 hown hK hP 0 rfl rfl 11 (by decide) (hts (.fieldLink RX12 31 "OilPushModel" "oil" "[I") (List.mem_of_getElem? (i := 4) rfl)) (fun _ h => h) rfl dX12_about_86 ?_
      refine lv_iload_n hx hb dX12_about_89 rfl (lv_at hl 1 rfl) ?_
      refine va_iald hx hb hK hP 1 0 rfl rfl (noCyl_in h7 c3).1 dX12_about_90 ?_
      exact retI C hS () trivial hP hD (Nat.le_of_ble_eq_true rfl) (Nat.le_of_ble_eq_true rfl) dX12_about_91
    by_cases w8 : what = 4
    · refine lv_tableIn (tgt := 92) (off := 81) hx hb dX12_about_11 (by rw [w8]; decide) (by rw [w8]; decide) (by rw [w8]; rfl) (by decide) ?_
      refine lv_aload_n hx hb dX12_about_92 rfl (lv_at hl 0 rfl) ?_
      refine lv_iload_n hx hb dX12_about_93 rfl (lv_at hl 1 rfl) ?_
      refine kI (rnV (As := [.int cy]) (rest := []) (Cn := RX12) C (w_loadOf l g h0 q i L a11 a12 a9 a10 a13 cy hM hO (noCyl_in h7 c3).1 (noCyl_in h7 c3).2) 1 gX12_about_X12_loadOf rfl (by decide +kernel) ⟨(Nat.le_of_ble_eq_true rfl), (Nat.le_of_ble_eq_true rfl)⟩ hP (k := 0) (ci := 12) rfl rfl rfl rfl hl.1 rfl (Nat.le_of_ble_eq_true rfl) dX12_about_94 ⟨(Nat.le_of_ble_eq_true rfl), (Nat.le_of_ble_eq_true rfl)⟩) (spM0 [true, true, true, true, true, true, false, false, false, false, false] hP hD rfl) hA hS (fun r9 u10 H locs hw hP hD hS => ?_)
      have hre := hw
      replace hP : va_P g.1 vwCl [(h0, .inr (12, mO q i L)), ((q 11), .inl (g.2 0, 6, .inl a11)), ((q 12), .inl (g.2 0, 6, .inl a12)), ((q 9), .inl (g.2 0, 6, .inl a9)), ((q 10), .inl (g.2 0, 6, .inl a10)), ((q 13), .inl (g.2 0, 60, .inl a13)), ((q 8), .inl (g.2 0, 6, .inl a8)), ((q 14), .inl (g.2 0, 6, .inl a14)), ((q 17), .inl (g.2 0, 6, .inl a17)), ((q 18), .inl (g.2 1, 6, .inl a18)), ((q 19), .inl (g.2 0, 6, .inl a19))] H := hP
      replace hD : va_D A [(h0, .inr (12, mO q i L)), ((q 11), .inl (g.2 0, 6, .inl a11)), ((q 12), .inl (g.2 0, 6, .inl a12)), ((q 9), .inl (g.2 0, 6, .inl a9)), ((q 10), .inl (g.2 0, 6, .inl a10)), ((q 13), .inl (g.2 0, 60, .inl a13)), ((q 8), .inl (g.2 0, 6, .inl a8)), ((q 14), .inl (g.2 0, 6, .inl a14)), ((q 17), .inl (g.2 0, 6, .inl a17)), ((q 18), .inl (g.2 1, 6, .inl a18)), ((q 19), .inl (g.2 0, 6, .inl a19))] := hD
      refine nx_i (v := (a13 (((10 * cy) + (r_c_lesser (((a11 (cy.toNatClampNeg)) * (a12 (cy.toNatClampNeg))) / ((a9 (cy.toNatClampNeg)) * (a10 (cy.toNatClampNeg)))) ((a12 (cy.toNatClampNeg)) - 1))).toNatClampNeg))) hre ?_
      exact retI C hS () trivial hP hD (Nat.le_of_ble_eq_true rfl) (Nat.le_of_ble_eq_true rfl) dX12_about_97
    by_cases w11 : what = 5
    · refine lv_tableIn (tgt := 98) (off := 87) hx hb dX12_about_11 (by rw [w11]; decide) (by rw [w11]; decide) (by rw [w11]; rfl) (by decide) ?_
      refine lv_aload_n hx hb dX12_about_98 rfl (lv_at hl 0 rfl) ?_
      refine lv_iload_n hx hb dX12_about_99 rfl (lv_at hl 1 rfl) ?_
      refine kI (rnV (As := [.int cy]) (rest := []) (Cn := RX12) C (w_needOf l g h0 q i L a11 a12 a9 a10 a13 a8 a14 cy hM hO (noCyl_in h7 c3).1 (noCyl_in h7 c3).2) 1 gX12_about_X12_needOf rfl (by decide +kernel) ⟨(Nat.le_of_ble_eq_true rfl), (Nat.le_of_ble_eq_true rfl)⟩ hP (k := 0) (ci := 12) rfl rfl rfl rfl hl.1 rfl (Nat.le_of_ble_eq_true rfl) dX12_about_100 ⟨(Nat.le_of_ble_eq_true rfl), (Nat.le_of_ble_eq_true rfl)⟩) (spM0 [true, true, true, true, true, true, true, true, false, false, false] hP hD rfl) hA hS (fun r12 u13 H locs hw hP hD hS => ?_)
      replace hP : va_P g.1 vwCl [(h0, .inr (12, mO q i L)), ((q 11), .inl (g.2 0, 6, .inl a11)), ((q 12), .inl (g.2 0, 6, .inl a12)), ((q 9), .inl (g.2 0, 6, .inl a9)), ((q 10), .inl (g.2 0, 6, .inl a10)), ((q 13), .inl (g.2 0, 60, .inl a13)), ((q 8), .inl (g.2 0, 6, .inl a8)), ((q 14), .inl (g.2 0, 6, .inl a14)), ((q 17), .inl (g.2 0, 6, .inl a17)), ((q 18), .inl (g.2 1, 6, .inl a18)), ((q 19), .inl (g.2 0, 6, .inl a19))] H := hP
      replace hD : va_D A [(h0, .inr (12, mO q i L)), ((q 11), .inl (g.2 0, 6, .inl a11)), ((q 12), .inl (g.2 0, 6, .inl a12)), ((q 9), .inl (g.2 0, 6, .inl a9)), ((q 10), .inl (g.2 0, 6, .inl a10)), ((q 13), .inl (g.2 0, 60, .inl a13)), ((q 8), .inl (g.2 0, 6, .inl a8)), ((q 14), .inl (g.2 0, 6, .inl a14)), ((q 17), .inl (g.2 0, 6, .inl a17)), ((q 18), .inl (g.2 1, 6, .inl a18)), ((q 19), .inl (g.2 0, 6, .inl a19))] := hD
      exact retI C hS () trivial hP hD (Nat.le_of_ble_eq_true rfl) (Nat.le_of_ble_eq_true rfl) dX12_about_103
    by_cases w14 : what = 6
    · refine lv_tableIn (tgt := 104) (off := 93) hx hb dX12_about_11 (by rw [w14]; decide) (by rw [w14]; decide) (by rw [w14]; rfl) (by decide) ?_
      refine lv_aload_n hx hb dX12_about_104 rfl (lv_at hl 0 rfl) ?_
      refine va_get (D := g.1) (ci := 12) (v := .ref (q 17)) (C := RX12) (T := TX12) (N := 66) hx hb hts hw_X12_about_X12 hown hK hP 0 rfl rfl 17 (by decide) (hts (.fieldLink RX12 49 "OilPushModel" "valves" "[I") (List.mem_of_getElem? (i := 5) rfl)) (fun _ h => h) rfl dX12_about_105 ?_
      refine lv_iload_n hx hb dX12_about_108 rfl (lv_at hl 1 rfl) ?_
      refine va_iald hx hb hK hP 8 0 rfl rfl (noCyl_in h7 c3).1 dX12_about_109 ?_
      exact retI C hS () trivial hP hD (Nat.le_of_ble_eq_true rfl) (Nat.le_of_ble_eq_true rfl) dX12_about_110
    by_cases w15 : what = 7
    · refine lv_tableIn (tgt := 111) (off := 100) hx hb dX12_about_11 (by rw [w15]; decide) (by rw [w15]; decide) (by rw [w15]; rfl) (by decide) ?_
      refine lv_aload_n hx hb dX12_about_111 rfl (lv_at hl 0 rfl) ?_
      refine va_get (D := g.1) (ci := 12) (v := .ref (q 12)) (C := RX12) (T := TX12) (N := 66) hx hb hts hw_X12_about_X12 hown hK hP 0 rfl rfl 12 (by decide) (hts (.fieldLink RX12 34 "OilPushModel" "loadMany" "[I") (List.mem_of_getElem? (i := 6) rfl)) (fun _ h => h) rfl dX12_about_112 ?_
      refine lv_iload_n hx hb dX12_about_115 rfl (lv_at hl 1 rfl) ?_
      refine va_iald hx hb hK hP 2 0 rfl rfl (noCyl_in h7 c3).1 dX12_about_116 ?_
      exact retI C hS () trivial hP hD (Nat.le_of_ble_eq_true rfl) (Nat.le_of_ble_eq_true rfl) dX12_about_117
    by_cases w16 : what = 8
    · refine lv_tableIn (tgt := 118) (off := 107) hx hb dX12_about_11 (by rw [w16]; decide) (by rw [w16]; decide) (by rw [w16]; rfl) (by decide) ?_
      refine lv_aload_n hx hb dX12_about_118 rfl (lv_at hl 0 rfl) ?_
      refine va_get (D := g.1) (ci := 12) (v := .ref (q 18)) (C := RX12) (T := TX12) (N := 66) hx hb hts hw_X12_about_X12 hown hK hP 0 rfl rfl 18 (by decide) (hts (.fieldLink RX12 52 "OilPushModel" "isBurst" "[Z") (List.mem_of_getElem? (i := 7) rfl)) (fun _ h => h) rfl dX12_about_119 ?_
      refine lv_iload_n hx hb dX12_about_122 rfl (lv_at hl 1 rfl) ?_
      refine va_zald hx hb hK hP 9 1 rfl rfl (noCyl_in h7 c3).1 dX12_about_123 ?_
      refine lv_if_eq (tgt := 131) hx hb dX12_about_124 (by decide) (fun c17 => ?_) (fun c17 => ?_)
      · refine lv_iconst (v := 0) hx hb dX12_about_131 (by decide) ?_
        exact retI C hS () trivial hP hD (Nat.le_of_ble_eq_true rfl) (Nat.le_of_ble_eq_true rfl) dX12_about_132
      refine lv_iconst (v := 1) hx hb dX12_about_127 (by decide) ?_
      refine lv_goto (tgt := 132) hx hb dX12_about_128 (by decide) ?_
      exact retI C hS () trivial hP hD (Nat.le_of_ble_eq_true rfl) (Nat.le_of_ble_eq_true rfl) dX12_about_132
    by_cases w18 : what = 9
    · refine lv_tableIn (tgt := 133) (off := 122) hx hb dX12_about_11 (by rw [w18]; decide) (by rw [w18]; decide) (by rw [w18]; rfl) (by decide) ?_
      refine lv_aload_n hx hb dX12_about_133 rfl (lv_at hl 0 rfl) ?_
      refine va_get (D := g.1) (ci := 12) (v := .ref (q 19)) (C := RX12) (T := TX12) (N := 66) hx hb hts hw_X12_about_X12 hown hK hP 0 rfl rfl 19 (by decide) (hts (.fieldLink RX12 56 "OilPushModel" "took" "[I") (List.mem_of_getElem? (i := 8) rfl)) (fun _ h => h) rfl dX12_about_134 ?_
      refine lv_iload_n hx hb dX12_about_137 rfl (lv_at hl 1 rfl) ?_
      refine va_iald hx hb hK hP 10 0 rfl rfl (noCyl_in h7 c3).1 dX12_about_138 ?_
      exact retI C hS () trivial hP hD (Nat.le_of_ble_eq_true rfl) (Nat.le_of_ble_eq_true rfl) dX12_about_139
    refine lv_tableOut (tgt := 140) hx hb dX12_about_11 (sw9 w4 w5 w6 w7 w8 w11 w14 w15 w16 w18) (by decide) ?_
    refine lv_bipush (v := -2) hx hb dX12_about_140 (by decide) ?_
    exact retI C hS () trivial hP hD (Nat.le_of_ble_eq_true rfl) (Nat.le_of_ble_eq_true rfl) dX12_about_142
  refine lv_iconst (v := -1) hx hb dX12_about_8 (by decide) ?_
  exact retI C hS () trivial hP hD (Nat.le_of_ble_eq_true rfl) (Nat.le_of_ble_eq_true rfl) dX12_about_9
theorem hw_X12_start_X12 : ∀ w ∈ wsX120, w ∈ wsX12_start := fun w h => List.mem_cons_of_mem _ (List.mem_append_right _ h)
set_option maxRecDepth 100000 in
set_option maxHeartbeats 4000000 in
theorem w_start (l : Launch) (g : Gt) (h0 : Nat) (q : Nat → Nat) (i : Nat → Int32) (L : Nat → Int64) (a11 : Nat → Int32) (a17 : Nat → Int32) (a18 : Nat → Int32) (a47 : Nat → Int32) (a48 : Nat → Int32) (a49 : Nat → Int32) (h7 : 0 ≤ (i 7).toInt ∧ (i 7).toInt ≤ 6) (hO : OB a11) (h47 : OB a47) (h23 : 0 ≤ (i 23).toInt ∧ (i 23).toInt ≤ 5000) (h29 : 0 ≤ (i 29).toInt) : Ctr l g yX12_start wsX12_start ({ frames := 0, cells := 0, slots := 0, locals := 0 } : Room) [.ref h0] [(h0, .inr (12, mO q i L)), ((q 11), .inl (g.2 0, 6, .inl a11)), ((q 17), .inl (g.2 0, 6, .inl a17)), ((q 18), .inl (g.2 1, 6, .inl a18)), ((q 47), .inl (g.2 0, 6, .inl a47)), ((q 48), .inl (g.2 0, 6, .inl a48)), ((q 49), .inl (g.2 1, 6, .inl a49))] (fun A => QI g A (fun r (u : Int32 × Int32 × Int32 × Int32 × Int32 × (Nat → Int32) × (Nat → Int32) × (Nat → Int32)) => (r = 1) ∧ (OB u.2.2.2.2.2.1) ∧ (0 ≤ (u.2.2.2.1).toInt ∧ (u.2.2.2.1).toInt ≤ 5000) ∧ (0 ≤ (u.2.2.2.2.1).toInt) ∧ (u.1 = 0)) (fun (u : Int32 × Int32 × Int32 × Int32 × Int32 × (Nat → Int32) × (Nat → Int32) × (Nat → Int32)) => [(h0, .inr (12, mO q (upd (upd (upd (upd (upd i 30 u.1) 45 u.2.1) 46 u.2.2.1) 50 u.2.2.2.1) 51 u.2.2.2.2.1) L)), ((q 11), .inl (g.2 0, 6, .inl a11)), ((q 17), .inl (g.2 0, 6, .inl a17)), ((q 18), .inl (g.2 1, 6, .inl a18)), ((q 47), .inl (g.2 0, 6, .inl u.2.2.2.2.2.1)), ((q 48), .inl (g.2 0, 6, .inl u.2.2.2.2.2.2.1)), ((q 49), .inl (g.2 1, 6, .inl u.2.2.2.2.2.2.2))])) := by
  refine Ctr.of (cc := cX12_start) (maxL := 2) (ret := (some .int)) (by decide) rfl (Nat.le_of_ble_eq_true rfl) ?_
  intro p e s m below meth c A ls H C hP hD hA hS hl
  obtain ⟨hx, hb, hr, hts, hown, hlocks, hml, hin, hKN⟩ := id C
  have hK := hKN.1
  have hN := hKN.2
  have F : CallFix p m c cX12_start 2 s _ wsX12_start yX12_start.cls := ⟨hx, hb, hml, hown, hts⟩
  have hl : lv_has ls 2 [(0, .ref h0)] := hl
  refine lv_aload_n hx hb dX12_start_0 rfl (lv_at hl 0 rfl) ?_
  refine lv_iconst (v := 1) hx hb dX12_start_1 (by decide) ?_
  refine va_put (D := g.1) (ci := 12) (v := .int 1) (ty := .boolean) (C := RX12) (T := TX12) (N := 66) hx hb hts hw_X12_start_X12 tyX12 tyX12_ok nmX12 hown hK hP hD hS 0 rfl rfl 45 (by decide) (hts (.fieldLink RX12 279 "OilPushModel" "isStarted" "Z") (List.mem_of_getElem? (i := 1) rfl)) (fun _ h => h) rfl (by decide +kernel) rfl rfl (Nat.le_of_ble_eq_true rfl) dX12_start_2 (fun H locs hP hD hS => ?_)
  replace hP : va_P g.1 vwCl [(h0, .inr (12, mO q (upd i 45 1) L)), ((q 11), .inl (g.2 0, 6, .inl a11)), ((q 17), .inl (g.2 0, 6, .inl a17)), ((q 18), .inl (g.2 1, 6, .inl a18)), ((q 47), .inl (g.2 0, 6, .inl a47)), ((q 48), .inl (g.2 0, 6, .inl a48)), ((q 49), .inl (g.2 1, 6, .inl a49))] H := hP
  replace hD : va_D A [(h0, .inr (12, mO q (upd i 45 1) L)), ((q 11), .inl (g.2 0, 6, .inl a11)), ((q 17), .inl (g.2 0, 6, .inl a17)), ((q 18), .inl (g.2 1, 6, .inl a18)), ((q 47), .inl (g.2 0, 6, .inl a47)), ((q 48), .inl (g.2 0, 6, .inl a48)), ((q 49), .inl (g.2 1, 6, .inl a49))] := hD
  refine lv_aload_n hx hb dX12_start_5 rfl (lv_at hl 0 rfl) ?_
  refine lv_aload_n hx hb dX12_start_6 rfl (lv_at hl 0 rfl) ?_
  refine va_get (D := g.1) (ci := 12) (v := .int (i 7)) (C := RX12) (T := TX12) (N := 66) hx hb hts hw_X12_start_X12 hown hK hP 0 rfl rfl 7 (by decide) (hts (.fieldLink RX12 179 "OilPushModel" "cylinders" "I") (List.mem_of_getElem? (i := 2) rfl)) (fun _ h => h) rfl dX12_start_7 ?_
  refine va_put (D := g.1) (ci := 12) (v := .int (i 7)) (ty := .int) (C := RX12) (T := TX12) (N := 66) hx hb hts hw_X12_start_X12 tyX12 tyX12_ok nmX12 hown hK hP hD hS 0 rfl rfl 46 (by decide) (hts (.fieldLink RX12 282 "OilPushModel" "startMany" "I") (List.mem_of_getElem? (i := 3) rfl)) (fun _ h => h) rfl (by decide +kernel) rfl rfl (Nat.le_of_ble_eq_true rfl) dX12_start_10 (fun H locs hP hD hS => ?_)
  replace hP : va_P g.1 vwCl [(h0, .inr (12, mO q (upd (upd i 45 1) 46 (i 7)) L)), ((q 11), .inl (g.2 0, 6, .inl a11)), ((q 17), .inl (g.2 0, 6, .inl a17)), ((q 18), .inl (g.2 1, 6, .inl a18)), ((q 47), .inl (g.2 0, 6, .inl a47)), ((q 48), .inl (g.2 0, 6, .inl a48)), ((q 49), .inl (g.2 1, 6, .inl a49))] H := hP
  replace hD : va_D A [(h0, .inr (12, mO q (upd (upd i 45 1) 46 (i 7)) L)), ((q 11), .inl (g.2 0, 6, .inl a11)), ((q 17), .inl (g.2 0, 6, .inl a17)), ((q 18), .inl (g.2 1, 6, .inl a18)), ((q 47), .inl (g.2 0, 6, .inl a47)), ((q 48), .inl (g.2 0, 6, .inl a48)), ((q 49), .inl (g.2 1, 6, .inl a49))] := hD
  refine lv_iconst (v := 0) hx hb dX12_start_13 (by decide) ?_
  refine lv_istore_n (lv' := [(1, .int 0), (0, .ref h0)]) hx hb dX12_start_14 rfl hl (by decide) rfl (fun ls hl => ?_)
  refine W.loop (α := (Nat → Int32) × (Nat → Int32) × (Nat → Int32) × Int32) (P := fun z ls H locs => (0 ≤ (z.2.2.2).toInt ∧ OB z.1) ∧ lv_has ls 2 [(1, .int z.2.2.2), (0, .ref h0)] ∧ va_P g.1 vwCl [(h0, .inr (12, mO q (upd (upd i 45 1) 46 (i 7)) L)), ((q 11), .inl (g.2 0, 6, .inl a11)), ((q 17), .inl (g.2 0, 6, .inl a17)), ((q 18), .inl (g.2 1, 6, .inl a18)), ((q 47), .inl (g.2 0, 6, .inl z.1)), ((q 48), .inl (g.2 0, 6, .inl z.2.1)), ((q 49), .inl (g.2 1, 6, .inl z.2.2.1))] H ∧ va_D A [(h0, .inr (12, mO q (upd (upd i 45 1) 46 (i 7)) L)), ((q 11), .inl (g.2 0, 6, .inl a11)), ((q 17), .inl (g.2 0, 6, .inl a17)), ((q 18), .inl (g.2 1, 6, .inl a18)), ((q 47), .inl (g.2 0, 6, .inl z.1)), ((q 48), .inl (g.2 0, 6, .inl z.2.1)), ((q 49), .inl (g.2 1, 6, .inl z.2.2.1))] ∧ va_S A s.heap H locs) (μ := fun z => ((i 7).toInt - (z.2.2.2).toInt).toNat) (a47, a48, a49, 0) ⟨⟨z_ge, h47⟩, hl, hP, hD, hS⟩ (fun z ls H locs hh ih15 => ?_)
  obtain ⟨aq47_15, aq48_15, aq49_15, l1_15⟩ := z
  try dsimp only at hh ih15
  obtain ⟨hiv15, hl, hP, hD, hS⟩ := hh
  have hl : lv_has ls 2 [(1, .int l1_15), (0, .ref h0)] := hl
  replace hP : va_P g.1 vwCl [(h0, .inr (12, mO q (upd (upd i 45 1) 46 (i 7)) L)), ((q 11), .inl (g.2 0, 6, .inl a11)), ((q 17), .inl (g.2 0, 6, .inl a17)), ((q 18), .inl (g.2 1, 6, .inl a18)), ((q 47), .inl (g.2 0, 6, .inl aq47_15)), ((q 48), .inl (g.2 0, 6, .inl aq48_15)), ((q 49), .inl (g.2 1, 6, .inl aq49_15))] H := hP
  replace hD : va_D A [(h0, .inr (12, mO q (upd (upd i 45 1) 46 (i 7)) L)), ((q 11), .inl (g.2 0, 6, .inl a11)), ((q 17), .inl (g.2 0, 6, .inl a17)), ((q 18), .inl (g.2 1, 6, .inl a18)), ((q 47), .inl (g.2 0, 6, .inl aq47_15)), ((q 48), .inl (g.2 0, 6, .inl aq48_15)), ((q 49), .inl (g.2 1, 6, .inl aq49_15))] := hD
  refine lv_iload_n hx hb dX12_start_15 rfl (lv_at hl 0 rfl) ?_
  refine lv_aload_n hx hb dX12_start_16 rfl (lv_at hl 1 rfl) ?_
  refine va_get (D := g.1) (ci := 12) (v := .int (i 7)) (C := RX12) (T := TX12) (N := 66) hx hb hts hw_X12_start_X12 hown hK hP 0 rfl rfl 7 (by decide) (hts (.fieldLink RX12 179 "OilPushModel" "cylinders" "I") (List.mem_of_getElem? (i := 2) rfl)) (fun _ h => h) rfl dX12_start_17 ?_
  refine lv_icmp_ge (tgt := 65) hx hb dX12_start_20 (by decide) (fun c1 => ?_) (fun c1 => ?_)
  · refine lv_aload_n hx hb dX12_start_65 rfl (lv_at hl 1 rfl) ?_
    refine lv_aload_n hx hb dX12_start_66 rfl (lv_at hl 1 rfl) ?_
    refine va_get (D := g.1) (ci := 12) (v := .int (i 23)) (C := RX12) (T := TX12) (N := 66) hx hb hts hw_X12_start_X12 hown hK hP 0 rfl rfl 23 (by decide) (hts (.fieldLink RX12 203 "OilPushModel" "kept" "I") (List.mem_of_getElem? (i := 10) rfl)) (fun _ h => h) rfl dX12_start_67 ?_
    refine va_put (D := g.1) (ci := 12) (v := .int (i 23)) (ty := .int) (C := RX12) (T := TX12) (N := 66) hx hb hts hw_X12_start_X12 tyX12 tyX12_ok nmX12 hown hK hP hD hS 0 rfl rfl 50 (by decide) (hts (.fieldLink RX12 285 "OilPushModel" "startKept" "I") (List.mem_of_getElem? (i := 11) rfl)) (fun _ h => h) rfl (by decide +kernel) rfl rfl (Nat.le_of_ble_eq_true rfl) dX12_start_70 (fun H locs hP hD hS => ?_)
    replace hP : va_P g.1 vwCl [(h0, .inr (12, mO q (upd (upd (upd i 45 1) 46 (i 7)) 50 (i 23)) L)), ((q 11), .inl (g.2 0, 6, .inl a11)), ((q 17), .inl (g.2 0, 6, .inl a17)), ((q 18), .inl (g.2 1, 6, .inl a18)), ((q 47), .inl (g.2 0, 6, .inl aq47_15)), ((q 48), .inl (g.2 0, 6, .inl aq48_15)), ((q 49), .inl (g.2 1, 6, .inl aq49_15))] H := hP
    replace hD : va_D A [(h0, .inr (12, mO q (upd (upd (upd i 45 1) 46 (i 7)) 50 (i 23)) L)), ((q 11), .inl (g.2 0, 6, .inl a11)), ((q 17), .inl (g.2 0, 6, .inl a17)), ((q 18), .inl (g.2 1, 6, .inl a18)), ((q 47), .inl (g.2 0, 6, .inl aq47_15)), ((q 48), .inl (g.2 0, 6, .inl aq48_15)), ((q 49), .inl (g.2 1, 6, .inl aq49_15))] := hD
    refine lv_aload_n hx hb dX12_start_73 rfl (lv_at hl 1 rfl) ?_
    refine lv_aload_n hx hb dX12_start_74 rfl (lv_at hl 1 rfl) ?_
    refine va_get (D := g.1) (ci := 12) (v := .int (i 29)) (C := RX12) (T := TX12) (N := 66) hx hb hts hw_X12_start_X12 hown hK hP 0 rfl rfl 29 (by decide) (hts (.fieldLink RX12 224 "OilPushModel" "waiting" "I") (List.mem_of_getElem? (i := 12) rfl)) (fun _ h => h) rfl dX12_start_75 ?_
    refine va_put (D := g.1) (ci := 12) (v := .int (i 29)) (ty := .int) (C := RX12) (T := TX12) (N := 66) hx hb hts hw_X12_start_X12 tyX12 tyX12_ok nmX12 hown hK hP hD hS 0 rfl rfl 51 (by decide) (hts (.fieldLink RX12 288 "OilPushModel" "startWaiting" "I") (List.mem_of_getElem? (i := 13) rfl)) (fun _ h => h) rfl (by decide +kernel) rfl rfl (Nat.le_of_ble_eq_true rfl) dX12_start_78 (fun H locs hP hD hS => ?_)
    replace hP : va_P g.1 vwCl [(h0, .inr (12, mO q (upd (upd (upd (upd i 45 1) 46 (i 7)) 50 (i 23)) 51 (i 29)) L)), ((q 11), .inl (g.2 0, 6, .inl a11)), ((q 17), .inl (g.2 0, 6, .inl a17)), ((q 18), .inl (g.2 1, 6, .inl a18)), ((q 47), .inl (g.2 0, 6, .inl aq47_15)), ((q 48), .inl (g.2 0, 6, .inl aq48_15)), ((q 49), .inl (g.2 1, 6, .inl aq49_15))] H := hP
    replace hD : va_D A [(h0, .inr (12, mO q (upd (upd (upd (upd i 45 1) 46 (i 7)) 50 (i 23)) 51 (i 29)) L)), ((q 11), .inl (g.2 0, 6, .inl a11)), ((q 17), .inl (g.2 0, 6, .inl a17)), ((q 18), .inl (g.2 1, 6, .inl a18)), ((q 47), .inl (g.2 0, 6, .inl aq47_15)), ((q 48), .inl (g.2 0, 6, .inl aq48_15)), ((q 49), .inl (g.2 1, 6, .inl aq49_15))] := hD
    refine lv_aload_n hx hb dX12_start_81 rfl (lv_at hl 1 rfl) ?_
    refine lv_iconst (v := 0) hx hb dX12_start_82 (by decide) ?_
    refine va_put (D := g.1) (ci := 12) (v := .int 0) (ty := .int) (C := RX12) (T := TX12) (N := 66) hx hb hts hw_X12_start_X12 tyX12 tyX12_ok nmX12 hown hK hP hD hS 0 rfl rfl 30 (by decide) (hts (.fieldLink RX12 136 "OilPushModel" "sinceStart" "I") (List.mem_of_getElem? (i := 14) rfl)) (fun _ h => h) rfl (by decide +kernel) rfl rfl (Nat.le_of_ble_eq_true rfl) dX12_start_83 (fun H locs hP hD hS => ?_)
    replace hP : va_P g.1 vwCl [(h0, .inr (12, mO q (upd (upd (upd (upd (upd i 30 0) 45 1) 46 (i 7)) 50 (i 23)) 51 (i 29)) L)), ((q 11), .inl (g.2 0, 6, .inl a11)), ((q 17), .inl (g.2 0, 6, .inl a17)), ((q 18), .inl (g.2 1, 6, .inl a18)), ((q 47), .inl (g.2 0, 6, .inl aq47_15)), ((q 48), .inl (g.2 0, 6, .inl aq48_15)), ((q 49), .inl (g.2 1, 6, .inl aq49_15))] H := hP
    replace hD : va_D A [(h0, .inr (12, mO q (upd (upd (upd (upd (upd i 30 0) 45 1) 46 (i 7)) 50 (i 23)) 51 (i 29)) L)), ((q 11), .inl (g.2 0, 6, .inl a11)), ((q 17), .inl (g.2 0, 6, .inl a17)), ((q 18), .inl (g.2 1, 6, .inl a18)), ((q 47), .inl (g.2 0, 6, .inl aq47_15)), ((q 48), .inl (g.2 0, 6, .inl aq48_15)), ((q 49), .inl (g.2 1, 6, .inl aq49_15))] := hD
    refine lv_iconst (v := 1) hx hb dX12_start_86 (by decide) ?_
    exact retI C hS (0, 1, (i 7), (i 23), (i 29), aq47_15, aq48_15, aq49_15) ⟨rfl, hiv15.2, h23, h29, rfl⟩ hP hD (Nat.le_of_ble_eq_true rfl) (Nat.le_of_ble_eq_true rfl) dX12_start_87
  refine lv_aload_n hx hb dX12_start_23 rfl (lv_at hl 1 rfl) ?_
  refine va_get (D := g.1) (ci := 12) (v := .ref (q 47)) (C := RX12) (T := TX12) (N := 66) hx hb hts hw_X12_start_X12 hown hK hP 0 rfl rfl 47 (by decide) (hts (.fieldLink RX12 86 "OilPushModel" "startOil" "[I") (List.mem_of_getElem? (i := 4) rfl)) (fun _ h => h) rfl dX12_start_24 ?_
  refine lv_iload_n hx hb dX12_start_27 rfl (lv_at hl 0 rfl) ?_
  refine lv_aload_n hx hb dX12_start_28 rfl (lv_at hl 1 rfl) ?_
  refine va_get (D := g.1) (ci := 12) (v := .ref (q 11)) (C := RX12) (T := TX12) (N := 66) hx hb hts hw_X12_start_X12 hown hK hP 0 rfl rfl 11 (by decide) (hts (.fieldLink RX12 31 "OilPushModel" "oil" "[I") (List.mem_of_getElem? (i := 5) rfl)) (fun _ h => h) rfl dX12_start_29 ?_
  refine lv_iload_n hx hb dX12_start_32 rfl (lv_at hl 0 rfl) ?_
  refine va_iald hx hb hK hP 1 0 rfl rfl (lt_in hiv15.1 c1 h7.2) dX12_start_33 ?_
  refine va_iast hx hb hK hP hD hS 4 0 rfl rfl (lt_in hiv15.1 c1 h7.2) dX12_start_34 (fun H locs hP hD hS => ?_)
  replace hP : va_P g.1 vwCl [(h0, .inr (12, mO q (upd (upd i 45 1) 46 (i 7)) L)), ((q 11), .inl (g.2 0, 6, .inl a11)), ((q 17), .inl (g.2 0, 6, .inl a17)), ((q 18), .inl (g.2 1, 6, .inl a18)), ((q 47), .inl (g.2 0, 6, .inl (upd aq47_15 (l1_15.toNatClampNeg) (a11 (l1_15.toNatClampNeg))))), ((q 48), .inl (g.2 0, 6, .inl aq48_15)), ((q 49), .inl (g.2 1, 6, .inl aq49_15))] H := hP
  replace hD : va_D A [(h0, .inr (12, mO q (upd (upd i 45 1) 46 (i 7)) L)), ((q 11), .inl (g.2 0, 6, .inl a11)), ((q 17), .inl (g.2 0, 6, .inl a17)), ((q 18), .inl (g.2 1, 6, .inl a18)), ((q 47), .inl (g.2 0, 6, .inl (upd aq47_15 (l1_15.toNatClampNeg) (a11 (l1_15.toNatClampNeg))))), ((q 48), .inl (g.2 0, 6, .inl aq48_15)), ((q 49), .inl (g.2 1, 6, .inl aq49_15))] := hD
  refine lv_aload_n hx hb dX12_start_35 rfl (lv_at hl 1 rfl) ?_
  refine va_get (D := g.1) (ci := 12) (v := .ref (q 48)) (C := RX12) (T := TX12) (N := 66) hx hb hts hw_X12_start_X12 hown hK hP 0 rfl rfl 48 (by decide) (hts (.fieldLink RX12 89 "OilPushModel" "startValves" "[I") (List.mem_of_getElem? (i := 6) rfl)) (fun _ h => h) rfl dX12_start_36 ?_
  refine lv_iload_n hx hb dX12_start_39 rfl (lv_at hl 0 rfl) ?_
  refine lv_aload_n hx hb dX12_start_40 rfl (lv_at hl 1 rfl) ?_
  refine va_get (D := g.1) (ci := 12) (v := .ref (q 17)) (C := RX12) (T := TX12) (N := 66) hx hb hts hw_X12_start_X12 hown hK hP 0 rfl rfl 17 (by decide) (hts (.fieldLink RX12 49 "OilPushModel" "valves" "[I") (List.mem_of_getElem? (i := 7) rfl)) (fun _ h => h) rfl dX12_start_41 ?_
  refine lv_iload_n hx hb dX12_start_44 rfl (lv_at hl 0 rfl) ?_
  refine va_iald hx hb hK hP 2 0 rfl rfl (lt_in hiv15.1 c1 h7.2) dX12_start_45 ?_
  refine va_iast hx hb hK hP hD hS 5 0 rfl rfl (lt_in hiv15.1 c1 h7.2) dX12_start_46 (fun H locs hP hD hS => ?_)
  replace hP : va_P g.1 vwCl [(h0, .inr (12, mO q (upd (upd i 45 1) 46 (i 7)) L)), ((q 11), .inl (g.2 0, 6, .inl a11)), ((q 17), .inl (g.2 0, 6, .inl a17)), ((q 18), .inl (g.2 1, 6, .inl a18)), ((q 47), .inl (g.2 0, 6, .inl (upd aq47_15 (l1_15.toNatClampNeg) (a11 (l1_15.toNatClampNeg))))), ((q 48), .inl (g.2 0, 6, .inl (upd aq48_15 (l1_15.toNatClampNeg) (a17 (l1_15.toNatClampNeg))))), ((q 49), .inl (g.2 1, 6, .inl aq49_15))] H := hP
  replace hD : va_D A [(h0, .inr (12, mO q (upd (upd i 45 1) 46 (i 7)) L)), ((q 11), .inl (g.2 0, 6, .inl a11)), ((q 17), .inl (g.2 0, 6, .inl a17)), ((q 18), .inl (g.2 1, 6, .inl a18)), ((q 47), .inl (g.2 0, 6, .inl (upd aq47_15 (l1_15.toNatClampNeg) (a11 (l1_15.toNatClampNeg))))), ((q 48), .inl (g.2 0, 6, .inl (upd aq48_15 (l1_15.toNatClampNeg) (a17 (l1_15.toNatClampNeg))))), ((q 49), .inl (g.2 1, 6, .inl aq49_15))] := hD
  refine lv_aload_n hx hb dX12_start_47 rfl (lv_at hl 1 rfl) ?_
  refine va_get (D := g.1) (ci := 12) (v := .ref (q 49)) (C := RX12) (T := TX12) (N := 66) hx hb hts hw_X12_start_X12 hown hK hP 0 rfl rfl 49 (by decide) (hts (.fieldLink RX12 92 "OilPushModel" "startBurst" "[Z") (List.mem_of_getElem? (i := 8) rfl)) (fun _ h => h) rfl dX12_start_48 ?_
  refine lv_iload_n hx hb dX12_start_51 rfl (lv_at hl 0 rfl) ?_
  refine lv_aload_n hx hb dX12_start_52 rfl (lv_at hl 1 rfl) ?_
  refine va_get (D := g.1) (ci := 12) (v := .ref (q 18)) (C := RX12) (T := TX12) (N := 66) hx hb hts hw_X12_start_X12 hown hK hP 0 rfl rfl 18 (by decide) (hts (.fieldLink RX12 52 "OilPushModel" "isBurst" "[Z") (List.mem_of_getElem? (i := 9) rfl)) (fun _ h => h) rfl dX12_start_53 ?_
  refine lv_iload_n hx hb dX12_start_56 rfl (lv_at hl 0 rfl) ?_
  refine va_zald hx hb hK hP 3 1 rfl rfl (lt_in hiv15.1 c1 h7.2) dX12_start_57 ?_
  refine va_zast hx hb hK hP hD hS 6 1 rfl rfl (lt_in hiv15.1 c1 h7.2) dX12_start_58 (fun H locs hP hD hS => ?_)
  replace hP : va_P g.1 vwCl [(h0, .inr (12, mO q (upd (upd i 45 1) 46 (i 7)) L)), ((q 11), .inl (g.2 0, 6, .inl a11)), ((q 17), .inl (g.2 0, 6, .inl a17)), ((q 18), .inl (g.2 1, 6, .inl a18)), ((q 47), .inl (g.2 0, 6, .inl (upd aq47_15 (l1_15.toNatClampNeg) (a11 (l1_15.toNatClampNeg))))), ((q 48), .inl (g.2 0, 6, .inl (upd aq48_15 (l1_15.toNatClampNeg) (a17 (l1_15.toNatClampNeg))))), ((q 49), .inl (g.2 1, 6, .inl (upd aq49_15 (l1_15.toNatClampNeg) (vp_nar .boolean (a18 (l1_15.toNatClampNeg))))))] H := hP
  replace hD : va_D A [(h0, .inr (12, mO q (upd (upd i 45 1) 46 (i 7)) L)), ((q 11), .inl (g.2 0, 6, .inl a11)), ((q 17), .inl (g.2 0, 6, .inl a17)), ((q 18), .inl (g.2 1, 6, .inl a18)), ((q 47), .inl (g.2 0, 6, .inl (upd aq47_15 (l1_15.toNatClampNeg) (a11 (l1_15.toNatClampNeg))))), ((q 48), .inl (g.2 0, 6, .inl (upd aq48_15 (l1_15.toNatClampNeg) (a17 (l1_15.toNatClampNeg))))), ((q 49), .inl (g.2 1, 6, .inl (upd aq49_15 (l1_15.toNatClampNeg) (vp_nar .boolean (a18 (l1_15.toNatClampNeg))))))] := hD
  refine lv_iinc (v := (l1_15 + 1)) (lv' := [(1, .int (l1_15 + 1)), (0, .ref h0)]) hx hb dX12_start_59 hl (k := 0) rfl rfl (by decide) rfl (fun ls hl => ?_)
  refine lv_goto (tgt := 15) hx hb dX12_start_62 (by decide) ?_
  exact ih15 ((upd aq47_15 (l1_15.toNatClampNeg) (a11 (l1_15.toNatClampNeg))), (upd aq48_15 (l1_15.toNatClampNeg) (a17 (l1_15.toNatClampNeg))), (upd aq49_15 (l1_15.toNatClampNeg) (vp_nar .boolean (a18 (l1_15.toNatClampNeg)))), (l1_15 + 1)) ls H locs ⟨⟨(by have h9 := inc_toInt c1; have h8 := hiv15.1; (try dsimp only); omega), OB_upd hiv15.2 (hO _)⟩, lv_sub hl [0, 1] rfl, hP, hD, hS⟩ (inc_mu2 c1)
