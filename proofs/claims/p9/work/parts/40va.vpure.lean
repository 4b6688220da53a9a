def mrw (a13 : FnI) : Nat → FnI := fun c j => a13 (10 * c + j)
def rmM (a9 a10 : FnI) : FnI := fun c => a9 c * a10 c
def ldM (a9 a10 a12 a13 : FnI) : Nat → Int32 → Int32 := pLD a9 a10 a12 (mrw a13)
def ndM (a8 a9 a10 a12 a14 a13 : FnI) : Nat → Int32 → Int32 := pND a8 a9 a10 a12 a14 (mrw a13)
theorem load_ix {i a9 a10 a11 a12 : Nat → Int32} {cy : Int32} (hM : MCI i a9 a10 a12) (hO : OB a11) (hc : vp_in cy 6) (hlt : cy.toInt < (i 7).toInt) : 0 < a9 (cy.toNatClampNeg) * a10 (cy.toNatClampNeg) ∧ vp_in (r_c_lesser (a11 (cy.toNatClampNeg) * a12 (cy.toNatClampNeg) / (a9 (cy.toNatClampNeg) * a10 (cy.toNatClampNeg))) (a12 (cy.toNatClampNeg) - 1)) 10 ∧ (10 * cy + r_c_lesser (a11 (cy.toNatClampNeg) * a12 (cy.toNatClampNeg) / (a9 (cy.toNatClampNeg) * a10 (cy.toNatClampNeg))) (a12 (cy.toNatClampNeg) - 1)).toNatClampNeg = 10 * cy.toNatClampNeg + (r_c_lesser (a11 (cy.toNatClampNeg) * a12 (cy.toNatClampNeg) / (a9 (cy.toNatClampNeg) * a10 (cy.toNatClampNeg))) (a12 (cy.toNatClampNeg) - 1)).toNatClampNeg := by
  have h := hM cy.toNatClampNeg (by rw [cl_nat hc]; exact hlt)
  have ho := hO cy.toNatClampNeg
  have h2 := mul_toInt h.1 h.2.1
  have hcy := vp_in_iff.mp hc
  generalize a9 (cy.toNatClampNeg) = x9 at h h2 ⊢
  generalize a10 (cy.toNatClampNeg) = x10 at h h2 ⊢
  generalize a11 (cy.toNatClampNeg) = x11 at ho ⊢
  generalize a12 (cy.toNatClampNeg) = x12 at h ⊢
  have h3 : x11.toInt * x12.toInt ≤ 30000 * 10 := Int.mul_le_mul (by omega) (by omega) (by omega) (by omega)
  have h4 : 0 ≤ x11.toInt * x12.toInt := Int.mul_nonneg ho.1 (by omega)
  have e1 : (x11 * x12).toInt = x11.toInt * x12.toInt := by
    rw [Int32.toInt_mul, Int.bmod_eq_of_le] <;> omega
  have e2 : (x12 - 1).toInt = x12.toInt - 1 := by
    rw [Int32.toInt_sub, show (1 : Int32).toInt = 1 from by decide, Int.bmod_eq_of_le] <;> omega
  have e3 : 0 ≤ (x11 * x12 / (x9 * x10)).toInt := by
    rw [Int32.toInt_div, e1, h2.1]
    have := Int.tdiv_nonneg h4 (show 0 ≤ x9.toInt * x10.toInt by omega)
    have h5 : (x11.toInt * x12.toInt).tdiv (x9.toInt * x10.toInt) ≤ x11.toInt * x12.toInt := Int.tdiv_le_self _ h4
    rw [Int.bmod_eq_of_le] <;> omega
  have e4 : 0 ≤ (r_c_lesser (x11 * x12 / (x9 * x10)) (x12 - 1)).toInt ∧ (r_c_lesser (x11 * x12 / (x9 * x10)) (x12 - 1)).toInt ≤ 9 := by
    unfold r_c_lesser
    by_cases hh : x12 - 1 ≤ x11 * x12 / (x9 * x10)
    · rw [if_pos hh, e2]; omega
    · rw [if_neg hh]
      rw [Int32.le_iff_toInt_le, e2] at hh
      omega
  refine ⟨by rw [Int32.lt_iff_toInt_lt, Int32.toInt_zero, h2.1]; omega, ?_⟩
  generalize r_c_lesser (x11 * x12 / (x9 * x10)) (x12 - 1) = y at e4 ⊢
  have e5 : (10 * cy).toInt = 10 * cy.toInt := by
    rw [Int32.toInt_mul, show (10 : Int32).toInt = 10 from by decide, Int.bmod_eq_of_le] <;> omega
  have e6 : (10 * cy + y).toInt = 10 * cy.toInt + y.toInt := by
    rw [Int32.toInt_add, e5, Int.bmod_eq_of_le] <;> omega
  refine ⟨by rw [vp_in_iff]; omega, ?_⟩
  show (10 * cy + y).toInt.toNat = 10 * cy.toInt.toNat + y.toInt.toNat
  omega
theorem ld_eq {i a9 a10 a11 a12 a13 : Nat → Int32} {cy : Int32} (hM : MCI i a9 a10 a12) (hO : OB a11) (hc : vp_in cy 6) (hlt : cy.toInt < (i 7).toInt) : a13 ((10 * cy + r_c_lesser (a11 (cy.toNatClampNeg) * a12 (cy.toNatClampNeg) / (a9 (cy.toNatClampNeg) * a10 (cy.toNatClampNeg))) (a12 (cy.toNatClampNeg) - 1)).toNatClampNeg) = ldM a9 a10 a12 a13 (cy.toNatClampNeg) (a11 (cy.toNatClampNeg)) := by
  obtain ⟨h1, h2, h3⟩ := load_ix hM hO hc hlt
  unfold ldM pLD LDs
  rw [if_pos h1]
  show _ = r_c_get 10 (mrw a13 (cy.toNatClampNeg)) (mnI (a11 (cy.toNatClampNeg) * a12 (cy.toNatClampNeg) / (a9 (cy.toNatClampNeg) * a10 (cy.toNatClampNeg))) (a12 (cy.toNatClampNeg) - 1))
  rw [mn_lesser, get_in h2 (by decide), h3]
  rfl
theorem area_pos {i a9 a10 a12 : Nat → Int32} {cy : Int32} (hM : MCI i a9 a10 a12) (hc : vp_in cy 6) (hlt : cy.toInt < (i 7).toInt) : 0 < a9 (cy.toNatClampNeg) := by
  have h := hM cy.toNatClampNeg (by rw [cl_nat hc]; exact hlt)
  rw [Int32.lt_iff_toInt_lt, Int32.toInt_zero]
  omega
theorem nd_eq {i a8 a9 a10 a12 a13 a14 a11 : Nat → Int32} {cy : Int32} (hM : MCI i a9 a10 a12) (hc : vp_in cy 6) (hlt : cy.toInt < (i 7).toInt) : ndM a8 a9 a10 a12 a14 a13 (cy.toNatClampNeg) (a11 (cy.toNatClampNeg)) = (if a8 (cy.toNatClampNeg) = 2 then ((ldM a9 a10 a12 a13 (cy.toNatClampNeg) (a11 (cy.toNatClampNeg)) + a9 (cy.toNatClampNeg) - 1) / a9 (cy.toNatClampNeg) + 1) / 2 else (ldM a9 a10 a12 a13 (cy.toNatClampNeg) (a11 (cy.toNatClampNeg)) + a9 (cy.toNatClampNeg) - 1) / a9 (cy.toNatClampNeg)) + a14 (cy.toNatClampNeg) := by
  unfold ndM pND NDs PUs
  rw [if_pos (area_pos hM hc hlt)]
  rfl
set_option maxRecDepth 100000 in
set_option maxHeartbeats 4000000 in
theorem v_loadOf (l : Launch) (g : Gt) (h0 : Nat) (q : Nat → Nat) (i : Nat → Int32) (L : Nat → Int64) (a11 : Nat → Int32) (a12 : Nat → Int32) (a9 : Nat → Int32) (a10 : Nat → Int32) (a13 : Nat → Int32) (cy : Int32) (hM : MCI i a9 a10 a12) (hO : OB a11) (hc : vp_in cy 6) (hlt : cy.toInt < (i 7).toInt) : Ctr l g yX12_loadOf wsX12_loadOf ({ frames := 1, cells := 0, slots := 0, locals := 21 } : Room) [.ref h0, .int cy] [(h0, .inr (12, mO q i L)), ((q 11), .inl (g.2 0, 6, .inl a11)), ((q 12), .inl (g.2 0, 6, .inl a12)), ((q 9), .inl (g.2 0, 6, .inl a9)), ((q 10), .inl (g.2 0, 6, .inl a10)), ((q 13), .inl (g.2 0, 60, .inl a13))] (fun A => QI g A (fun r (u : Unit) => (r = (ldM a9 a10 a12 a13 (cy.toNatClampNeg) (a11 (cy.toNatClampNeg))))) (fun (u : Unit) => [(h0, .inr (12, mO q i L)), ((q 11), .inl (g.2 0, 6, .inl a11)), ((q 12), .inl (g.2 0, 6, .inl a12)), ((q 9), .inl (g.2 0, 6, .inl a9)), ((q 10), .inl (g.2 0, 6, .inl a10)), ((q 13), .inl (g.2 0, 60, .inl a13))])) := by
  refine Ctr.of (cc := cX12_loadOf) (maxL := 3) (ret := (some .int)) (by decide) rfl (Nat.le_of_ble_eq_true rfl) ?_
  intro p e s m below meth c A ls H C hP hD hA hS hl
  obtain ⟨hx, hb, hr, hts, hown, hlocks, hml, hin, hKN⟩ := id C
  have hK := hKN.1
  have hN := hKN.2
  have F : CallFix p m c cX12_loadOf 3 s _ wsX12_loadOf yX12_loadOf.cls := ⟨hx, hb, hml, hown, hts⟩
  have hl : lv_has ls 3 [(0, .ref h0), (1, .int cy)] := hl
  refine lv_aload_n hx hb dX12_loadOf_0 rfl (lv_at hl 0 rfl) ?_
  refine va_get (D := g.1) (ci := 12) (v := .ref (q 11)) (C := RX12) (T := TX12) (N := 66) hx hb hts hw_X12_loadOf_X12 hown hK hP 0 rfl rfl 11 (by decide) (hts (.fieldLink RX12 31 "OilPushModel" "oil" "[I") (List.mem_of_getElem? (i := 1) rfl)) (fun _ h => h) rfl dX12_loadOf_1 ?_
  refine lv_iload_n hx hb dX12_loadOf_4 rfl (lv_at hl 1 rfl) ?_
  refine va_iald hx hb hK hP 1 0 rfl rfl hc dX12_loadOf_5 ?_
  refine lv_aload_n hx hb dX12_loadOf_6 rfl (lv_at hl 0 rfl) ?_
  refine va_get (D := g.1) (ci := 12) (v := .ref (q 12)) (C := RX12) (T := TX12) (N := 66) hx hb hts hw_X12_loadOf_X12 hown hK hP 0 rfl rfl 12 (by decide) (hts (.fieldLink RX12 34 "OilPushModel" "loadMany" "[I") (List.mem_of_getElem? (i := 2) rfl)) (fun _ h => h) rfl dX12_loadOf_7 ?_
  refine lv_iload_n hx hb dX12_loadOf_10 rfl (lv_at hl 1 rfl) ?_
  refine va_iald hx hb hK hP 2 0 rfl rfl hc dX12_loadOf_11 ?_
  refine lv_imul hx hb dX12_loadOf_12 ?_
  refine lv_aload_n hx hb dX12_loadOf_13 rfl (lv_at hl 0 rfl) ?_
  refine lv_iload_n hx hb dX12_loadOf_14 rfl (lv_at hl 1 rfl) ?_
  refine kI (rnV (As := [.int cy]) (rest := [.int ((a11 (cy.toNatClampNeg)) * (a12 (cy.toNatClampNeg)))]) (Cn := RX12) C (g_room l g h0 q i L a9 a10 cy hc) 1 gX12_loadOf_X12_room rfl (by decide +kernel) ⟨(Nat.le_of_ble_eq_true rfl), (Nat.le_of_ble_eq_true rfl)⟩ hP (k := 0) (ci := 12) rfl rfl rfl rfl hl.1 rfl (Nat.le_of_ble_eq_true rfl) dX12_loadOf_15 ⟨(Nat.le_of_ble_eq_true rfl), (Nat.le_of_ble_eq_true rfl)⟩) (spM0 [true, false, false, true, true, false] hP hD rfl) hA hS (fun r1 u2 H locs hw hP hD hS => ?_)
  have hre := hw
  replace hP : va_P g.1 vwCl [(h0, .inr (12, mO q i L)), ((q 11), .inl (g.2 0, 6, .inl a11)), ((q 12), .inl (g.2 0, 6, .inl a12)), ((q 9), .inl (g.2 0, 6, .inl a9)), ((q 10), .inl (g.2 0, 6, .inl a10)), ((q 13), .inl (g.2 0, 60, .inl a13))] H := hP
  replace hD : va_D A [(h0, .inr (12, mO q i L)), ((q 11), .inl (g.2 0, 6, .inl a11)), ((q 12), .inl (g.2 0, 6, .inl a12)), ((q 9), .inl (g.2 0, 6, .inl a9)), ((q 10), .inl (g.2 0, 6, .inl a10)), ((q 13), .inl (g.2 0, 60, .inl a13))] := hD
  refine nx_i (v := ((a9 (cy.toNatClampNeg)) * (a10 (cy.toNatClampNeg)))) hre ?_
  refine lv_idiv hx hb dX12_loadOf_18 (room_ne hM hc hlt) ?_
  refine lv_istore_n (lv' := [(2, .int (((a11 (cy.toNatClampNeg)) * (a12 (cy.toNatClampNeg))) / ((a9 (cy.toNatClampNeg)) * (a10 (cy.toNatClampNeg))))), (0, .ref h0), (1, .int cy)]) hx hb dX12_loadOf_19 rfl hl (by decide) rfl (fun ls hl => ?_)
  refine lv_aload_n hx hb dX12_loadOf_20 rfl (lv_at hl 1 rfl) ?_
  refine va_get (D := g.1) (ci := 12) (v := .ref (q 13)) (C := RX12) (T := TX12) (N := 66) hx hb hts hw_X12_loadOf_X12 hown hK hP 0 rfl rfl 13 (by decide) (hts (.fieldLink RX12 37 "OilPushModel" "load" "[I") (List.mem_of_getElem? (i := 3) rfl)) (fun _ h => h) rfl dX12_loadOf_21 ?_
  refine lv_bipush (v := 10) hx hb dX12_loadOf_24 (by decide) ?_
  refine lv_iload_n hx hb dX12_loadOf_26 rfl (lv_at hl 2 rfl) ?_
  refine lv_imul hx hb dX12_loadOf_27 ?_
  refine lv_iload_n hx hb dX12_loadOf_28 rfl (lv_at hl 0 rfl) ?_
  refine lv_aload_n hx hb dX12_loadOf_29 rfl (lv_at hl 1 rfl) ?_
  refine va_get (D := g.1) (ci := 12) (v := .ref (q 12)) (C := RX12) (T := TX12) (N := 66) hx hb hts hw_X12_loadOf_X12 hown hK hP 0 rfl rfl 12 (by decide) (hts (.fieldLink RX12 34 "OilPushModel" "loadMany" "[I") (List.mem_of_getElem? (i := 2) rfl)) (fun _ h => h) rfl dX12_loadOf_30 ?_
  refine lv_iload_n hx hb dX12_loadOf_33 rfl (lv_at hl 2 rfl) ?_
  refine va_iald hx hb hK hP 2 0 rfl rfl hc dX12_loadOf_34 ?_
  refine lv_iconst (v := 1) hx hb dX12_loadOf_35 (by decide) ?_
  refine lv_isub hx hb dX12_loadOf_36 ?_
  refine pureIS (As := [.int (((a11 (cy.toNatClampNeg)) * (a12 (cy.toNatClampNeg))) / ((a9 (cy.toNatClampNeg)) * (a10 (cy.toNatClampNeg)))), .int ((a12 (cy.toNatClampNeg)) - 1)]) (rest := [.int (10 * cy), .ref (q 13)]) F (c_lesser l (((a11 (cy.toNatClampNeg)) * (a12 (cy.toNatClampNeg))) / ((a9 (cy.toNatClampNeg)) * (a10 (cy.toNatClampNeg)))) ((a12 (cy.toNatClampNeg)) - 1)) 2 gX12_loadOf_X12_lesser rfl (by decide +kernel) rfl rfl ⟨(Nat.le_of_ble_eq_true rfl), (Nat.le_of_ble_eq_true rfl)⟩ (Nat.le_of_ble_eq_true rfl) (Nat.le_of_ble_eq_true rfl) rfl hl.1 rfl (Nat.le_of_ble_eq_true rfl) dX12_loadOf_37 ?_
  refine lv_iadd hx hb dX12_loadOf_40 ?_
  refine va_iald hx hb hK hP 5 0 rfl rfl (load_in2 hM hO hc hlt) dX12_loadOf_41 ?_
  exact retI C hS () (ld_eq hM hO hc hlt) hP hD (Nat.le_of_ble_eq_true rfl) (Nat.le_of_ble_eq_true rfl) dX12_loadOf_42
set_option maxRecDepth 100000 in
set_option maxHeartbeats 4000000 in
theorem v_needOf (l : Launch) (g : Gt) (h0 : Nat) (q : Nat → Nat) (i : Nat → Int32) (L : Nat → Int64) (a11 : Nat → Int32) (a12 : Nat → Int32) (a9 : Nat → Int32) (a10 : Nat → Int32) (a13 : Nat → Int32) (a8 : Nat → Int32) (a14 : Nat → Int32) (cy : Int32) (hM : MCI i a9 a10 a12) (hO : OB a11) (hc : vp_in cy 6) (hlt : cy.toInt < (i 7).toInt) : Ctr l g yX12_needOf wsX12_needOf ({ frames := 2, cells := 0, slots := 0, locals := 43 } : Room) [.ref h0, .int cy] [(h0, .inr (12, mO q i L)), ((q 11), .inl (g.2 0, 6, .inl a11)), ((q 12), .inl (g.2 0, 6, .inl a12)), ((q 9), .inl (g.2 0, 6, .inl a9)), ((q 10), .inl (g.2 0, 6, .inl a10)), ((q 13), .inl (g.2 0, 60, .inl a13)), ((q 8), .inl (g.2 0, 6, .inl a8)), ((q 14), .inl (g.2 0, 6, .inl a14))] (fun A => QI g A (fun r (u : Unit) => (r = (ndM a8 a9 a10 a12 a14 a13 (cy.toNatClampNeg) (a11 (cy.toNatClampNeg))))) (fun (u : Unit) => [(h0, .inr (12, mO q i L)), ((q 11), .inl (g.2 0, 6, .inl a11)), ((q 12), .inl (g.2 0, 6, .inl a12)), ((q 9), .inl (g.2 0, 6, .inl a9)), ((q 10), .inl (g.2 0, 6, .inl a10)), ((q 13), .inl (g.2 0, 60, .inl a13)), ((q 8), .inl (g.2 0, 6, .inl a8)), ((q 14), .inl (g.2 0, 6, .inl a14))])) := by
  refine Ctr.of (cc := cX12_needOf) (maxL := 3) (ret := (some .int)) (by decide) rfl (Nat.le_of_ble_eq_true rfl) ?_
  intro p e s m below meth c A ls H C hP hD hA hS hl
  obtain ⟨hx, hb, hr, hts, hown, hlocks, hml, hin, hKN⟩ := id C
  have hK := hKN.1
  have hN := hKN.2
  have F : CallFix p m c cX12_needOf 3 s _ wsX12_needOf yX12_needOf.cls := ⟨hx, hb, hml, hown, hts⟩
  have hl : lv_has ls 3 [(0, .ref h0), (1, .int cy)] := hl
  refine lv_aload_n hx hb dX12_needOf_0 rfl (lv_at hl 0 rfl) ?_
  refine lv_iload_n hx hb dX12_needOf_1 rfl (lv_at hl 1 rfl) ?_
  refine kI (rnV (As := [.int cy]) (rest := []) (Cn := RX12) C (v_loadOf l g h0 q i L a11 a12 a9 a10 a13 cy hM hO hc hlt) 1 gX12_needOf_X12_loadOf rfl (by decide +kernel) ⟨(Nat.le_of_ble_eq_true rfl), (Nat.le_of_ble_eq_true rfl)⟩ hP (k := 0) (ci := 12) rfl rfl rfl rfl hl.1 rfl (Nat.le_of_ble_eq_true rfl) dX12_needOf_2 ⟨(Nat.le_of_ble_eq_true rfl), (Nat.le_of_ble_eq_true rfl)⟩) (spM0 [true, true, true, true, true, true, false, false] hP hD rfl) hA hS (fun r1 u2 H locs hw hP hD hS => ?_)
  have hre := hw
  replace hP : va_P g.1 vwCl [(h0, .inr (12, mO q i L)), ((q 11), .inl (g.2 0, 6, .inl a11)), ((q 12), .inl (g.2 0, 6, .inl a12)), ((q 9), .inl (g.2 0, 6, .inl a9)), ((q 10), .inl (g.2 0, 6, .inl a10)), ((q 13), .inl (g.2 0, 60, .inl a13)), ((q 8), .inl (g.2 0, 6, .inl a8)), ((q 14), .inl (g.2 0, 6, .inl a14))] H := hP
  replace hD : va_D A [(h0, .inr (12, mO q i L)), ((q 11), .inl (g.2 0, 6, .inl a11)), ((q 12), .inl (g.2 0, 6, .inl a12)), ((q 9), .inl (g.2 0, 6, .inl a9)), ((q 10), .inl (g.2 0, 6, .inl a10)), ((q 13), .inl (g.2 0, 60, .inl a13)), ((q 8), .inl (g.2 0, 6, .inl a8)), ((q 14), .inl (g.2 0, 6, .inl a14))] := hD
  refine nx_i (v := (ldM a9 a10 a12 a13 (cy.toNatClampNeg) (a11 (cy.toNatClampNeg)))) hre ?_
  refine lv_aload_n hx hb dX12_needOf_5 rfl (lv_at hl 0 rfl) ?_
  refine va_get (D := g.1) (ci := 12) (v := .ref (q 9)) (C := RX12) (T := TX12) (N := 66) hx hb hts hw_X12_needOf_X12 hown hK hP 0 rfl rfl 9 (by decide) (hts (.fieldLink RX12 25 "OilPushModel" "area" "[I") (List.mem_of_getElem? (i := 1) rfl)) (fun _ h => h) rfl dX12_needOf_6 ?_
  refine lv_iload_n hx hb dX12_needOf_9 rfl (lv_at hl 1 rfl) ?_
  refine va_iald hx hb hK hP 3 0 rfl rfl hc dX12_needOf_10 ?_
  refine lv_iadd hx hb dX12_needOf_11 ?_
  refine lv_iconst (v := 1) hx hb dX12_needOf_12 (by decide) ?_
  refine lv_isub hx hb dX12_needOf_13 ?_
  refine lv_aload_n hx hb dX12_needOf_14 rfl (lv_at hl 0 rfl) ?_
  refine va_get (D := g.1) (ci := 12) (v := .ref (q 9)) (C := RX12) (T := TX12) (N := 66) hx hb hts hw_X12_needOf_X12 hown hK hP 0 rfl rfl 9 (by decide) (hts (.fieldLink RX12 25 "OilPushModel" "area" "[I") (List.mem_of_getElem? (i := 1) rfl)) (fun _ h => h) rfl dX12_needOf_15 ?_
  refine lv_iload_n hx hb dX12_needOf_18 rfl (lv_at hl 1 rfl) ?_
  refine va_iald hx hb hK hP 3 0 rfl rfl hc dX12_needOf_19 ?_
  refine lv_idiv hx hb dX12_needOf_20 (area_ne hM hc hlt) ?_
  refine lv_istore_n (lv' := [(2, .int ((((ldM a9 a10 a12 a13 (cy.toNatClampNeg) (a11 (cy.toNatClampNeg))) + (a9 (cy.toNatClampNeg))) - 1) / (a9 (cy.toNatClampNeg)))), (0, .ref h0), (1, .int cy)]) hx hb dX12_needOf_21 rfl hl (by decide) rfl (fun ls hl => ?_)
  refine lv_aload_n hx hb dX12_needOf_22 rfl (lv_at hl 1 rfl) ?_
  refine va_get (D := g.1) (ci := 12) (v := .ref (q 8)) (C := RX12) (T := TX12) (N := 66) hx hb hts hw_X12_needOf_X12 hown hK hP 0 rfl rfl 8 (by decide) (hts (.fieldLink RX12 22 "OilPushModel" "kind" "[I") (List.mem_of_getElem? (i := 2) rfl)) (fun _ h => h) rfl dX12_needOf_23 ?_
  refine lv_iload_n hx hb dX12_needOf_26 rfl (lv_at hl 2 rfl) ?_
  refine va_iald hx hb hK hP 6 0 rfl rfl hc dX12_needOf_27 ?_
  refine lv_iconst (v := 2) hx hb dX12_needOf_28 (by decide) ?_
  refine lv_icmp_ne (tgt := 40) hx hb dX12_needOf_29 (by decide) (fun c3 => ?_) (fun c3 => ?_)
  · refine lv_iload_n hx hb dX12_needOf_40 rfl (lv_at hl 0 rfl) ?_
    refine lv_aload_n hx hb dX12_needOf_41 rfl (lv_at hl 1 rfl) ?_
    refine va_get (D := g.1) (ci := 12) (v := .ref (q 14)) (C := RX12) (T := TX12) (N := 66) hx hb hts hw_X12_needOf_X12 hown hK hP 0 rfl rfl 14 (by decide) (hts (.fieldLink RX12 40 "OilPushModel" "crack" "[I") (List.mem_of_getElem? (i := 3) rfl)) (fun _ h => h) rfl dX12_needOf_42 ?_
    refine lv_iload_n hx hb dX12_needOf_45 rfl (lv_at hl 2 rfl) ?_
    refine va_iald hx hb hK hP 7 0 rfl rfl hc dX12_needOf_46 ?_
    refine lv_iadd hx hb dX12_needOf_47 ?_
    exact retI C hS () (by rw [nd_eq hM hc hlt, if_neg c3]) hP hD (Nat.le_of_ble_eq_true rfl) (Nat.le_of_ble_eq_true rfl) dX12_needOf_48
  refine lv_iload_n hx hb dX12_needOf_32 rfl (lv_at hl 0 rfl) ?_
  refine lv_iconst (v := 1) hx hb dX12_needOf_33 (by decide) ?_
  refine lv_iadd hx hb dX12_needOf_34 ?_
  refine lv_iconst (v := 2) hx hb dX12_needOf_35 (by decide) ?_
  refine lv_idiv hx hb dX12_needOf_36 (by decide) ?_
  refine lv_goto (tgt := 41) hx hb dX12_needOf_37 (by decide) ?_
  refine lv_aload_n hx hb dX12_needOf_41 rfl (lv_at hl 1 rfl) ?_
  refine va_get (D := g.1) (ci := 12) (v := .ref (q 14)) (C := RX12) (T := TX12) (N := 66) hx hb hts hw_X12_needOf_X12 hown hK hP 0 rfl rfl 14 (by decide) (hts (.fieldLink RX12 40 "OilPushModel" "crack" "[I") (List.mem_of_getElem? (i := 3) rfl)) (fun _ h => h) rfl dX12_needOf_42 ?_
  refine lv_iload_n hx hb dX12_needOf_45 rfl (lv_at hl 2 rfl) ?_
  refine va_iald hx hb hK hP 7 0 rfl rfl hc dX12_needOf_46 ?_
  refine lv_iadd hx hb dX12_needOf_47 ?_
  exact retI C hS () (by rw [nd_eq hM hc hlt, if_pos c3]) hP hD (Nat.le_of_ble_eq_true rfl) (Nat.le_of_ble_eq_true rfl) dX12_needOf_48
set_option maxRecDepth 100000 in
set_option maxHeartbeats 4000000 in
theorem v_loseAll (l : Launch) (g : Gt) (h0 : Nat) (q : Nat → Nat) (i : Nat → Int32) (L : Nat → Int64) (a19 : Nat → Int32) (a18 : Nat → Int32) (a8 : Nat → Int32) (a15 : Nat → Int32) (a11 : Nat → Int32) (a17 : Nat → Int32) (a13 : Nat → Int32) (a12 : Nat → Int32) (a9 : Nat → Int32) (a10 : Nat → Int32) (a16 : Nat → Int32) (h7 : 0 ≤ (i 7).toInt ∧ (i 7).toInt ≤ 6) (hM : MCI i a9 a10 a12) (hO : OB a11) (hF : FB a15 a16) : Ctr l g yX12_loseAll wsX12_loseAll ({ frames := 2, cells := 0, slots := 0, locals := 44 } : Room) [.ref h0] [(h0, .inr (12, mO q i L)), ((q 19), .inl (g.2 0, 6, .inl a19)), ((q 18), .inl (g.2 1, 6, .inl a18)), ((q 8), .inl (g.2 0, 6, .inl a8)), ((q 15), .inl (g.2 0, 6, .inl a15)), ((q 11), .inl (g.2 0, 6, .inl a11)), ((q 17), .inl (g.2 0, 6, .inl a17)), ((q 13), .inl (g.2 0, 60, .inl a13)), ((q 12), .inl (g.2 0, 6, .inl a12)), ((q 9), .inl (g.2 0, 6, .inl a9)), ((q 10), .inl (g.2 0, 6, .inl a10)), ((q 16), .inl (g.2 0, 6, .inl a16))] (fun A => QV g A (fun (u : (Nat → Int32) × (Nat → Int32)) => (OB u.2) ∧ ((u.1, u.2) = forX (i 7) (rlF a8 a15 a16 (ldM a9 a10 a12 a13) a17 a18) 0 (a19, a11))) (fun (u : (Nat → Int32) × (Nat → Int32)) => [(h0, .inr (12, mO q i L)), ((q 19), .inl (g.2 0, 6, .inl u.1)), ((q 18), .inl (g.2 1, 6, .inl a18)), ((q 8), .inl (g.2 0, 6, .inl a8)), ((q 15), .inl (g.2 0, 6, .inl a15)), ((q 11), .inl (g.2 0, 6, .inl u.2)), ((q 17), .inl (g.2 0, 6, .inl a17)), ((q 13), .inl (g.2 0, 60, .inl a13)), ((q 12), .inl (g.2 0, 6, .inl a12)), ((q 9), .inl (g.2 0, 6, .inl a9)), ((q 10), .inl (g.2 0, 6, .inl a10)), ((q 16), .inl (g.2 0, 6, .inl a16))])) := by
  refine Ctr.of (cc := cX12_loseAll) (maxL := 2) (ret := none) (by decide) rfl (Nat.le_of_ble_eq_true rfl) ?_
  intro p e s m below meth c A ls H C hP hD hA hS hl
  obtain ⟨hx, hb, hr, hts, hown, hlocks, hml, hin, hKN⟩ := id C
  have hK := hKN.1
  have hN := hKN.2
  have F : CallFix p m c cX12_loseAll 2 s _ wsX12_loseAll yX12_loseAll.cls := ⟨hx, hb, hml, hown, hts⟩
  have hl : lv_has ls 2 [(0, .ref h0)] := hl
  refine lv_iconst (v := 0) hx hb dX12_loseAll_0 (by decide) ?_
  refine lv_istore_n (lv' := [(1, .int 0), (0, .ref h0)]) hx hb dX12_loseAll_1 rfl hl (by decide) rfl (fun ls hl => ?_)
  refine W.loop (α := (Nat → Int32) × (Nat → Int32) × Int32) (P := fun z ls H locs => ((forX (i 7) (rlF a8 a15 a16 (ldM a9 a10 a12 a13) a17 a18) z.2.2 (z.1, z.2.1) = forX (i 7) (rlF a8 a15 a16 (ldM a9 a10 a12 a13) a17 a18) 0 (a19, a11)) ∧ 0 ≤ (z.2.2).toInt ∧ OB z.2.1) ∧ lv_has ls 2 [(1, .int z.2.2), (0, .ref h0)] ∧ va_P g.1 vwCl [(h0, .inr (12, mO q i L)), ((q 19), .inl (g.2 0, 6, .inl z.1)), ((q 18), .inl (g.2 1, 6, .inl a18)), ((q 8), .inl (g.2 0, 6, .inl a8)), ((q 15), .inl (g.2 0, 6, .inl a15)), ((q 11), .inl (g.2 0, 6, .inl z.2.1)), ((q 17), .inl (g.2 0, 6, .inl a17)), ((q 13), .inl (g.2 0, 60, .inl a13)), ((q 12), .inl (g.2 0, 6, .inl a12)), ((q 9), .inl (g.2 0, 6, .inl a9)), ((q 10), .inl (g.2 0, 6, .inl a10)), ((q 16), .inl (g.2 0, 6, .inl a16))] H ∧ va_D A [(h0, .inr (12, mO q i L)), ((q 19), .inl (g.2 0, 6, .inl z.1)), ((q 18), .inl (g.2 1, 6, .inl a18)), ((q 8), .inl (g.2 0, 6, .inl a8)), ((q 15), .inl (g.2 0, 6, .inl a15)), ((q 11), .inl (g.2 0, 6, .inl z.2.1)), ((q 17), .inl (g.2 0, 6, .inl a17)), ((q 13), .inl (g.2 0, 60, .inl a13)), ((q 12), .inl (g.2 0, 6, .inl a12)), ((q 9), .inl (g.2 0, 6, .inl a9)), ((q 10), .inl (g.2 0, 6, .inl a10)), ((q 16), .inl (g.2 0, 6, .inl a16))] ∧ va_S A s.heap H locs) (μ := fun z => ((i 7).toInt - (z.2.2).toInt).toNat) (a19, a11, 0) ⟨⟨rfl, z_ge, hO⟩, hl, hP, hD, hS⟩ (fun z ls H locs hh ih2 => ?_)
  obtain ⟨aq19_2, aq11_2, l1_2⟩ := z
  try dsimp only at hh ih2
  obtain ⟨hiv2, hl, hP, hD, hS⟩ := hh
  have hl : lv_has ls 2 [(1, .int l1_2), (0, .ref h0)] := hl
  replace hP : va_P g.1 vwCl [(h0, .inr (12, mO q i L)), ((q 19), .inl (g.2 0, 6, .inl aq19_2)), ((q 18), .inl (g.2 1, 6, .inl a18)), ((q 8), .inl (g.2 0, 6, .inl a8)), ((q 15), .inl (g.2 0, 6, .inl a15)), ((q 11), .inl (g.2 0, 6, .inl aq11_2)), ((q 17), .inl (g.2 0, 6, .inl a17)), ((q 13), .inl (g.2 0, 60, .inl a13)), ((q 12), .inl (g.2 0, 6, .inl a12)), ((q 9), .inl (g.2 0, 6, .inl a9)), ((q 10), .inl (g.2 0, 6, .inl a10)), ((q 16), .inl (g.2 0, 6, .inl a16))] H := hP
  replace hD : va_D A [(h0, .inr (12, mO q i L)), ((q 19), .inl (g.2 0, 6, .inl aq19_2)), ((q 18), .inl (g.2 1, 6, .inl a18)), ((q 8), .inl (g.2 0, 6, .inl a8)), ((q 15), .inl (g.2 0, 6, .inl a15)), ((q 11), .inl (g.2 0, 6, .inl aq11_2)), ((q 17), .inl (g.2 0, 6, .inl a17)), ((q 13), .inl (g.2 0, 60, .inl a13)), ((q 12), .inl (g.2 0, 6, .inl a12)), ((q 9), .inl (g.2 0, 6, .inl a9)), ((q 10), .inl (g.2 0, 6, .inl a10)), ((q 16), .inl (g.2 0, 6, .inl a16))] := hD
  refine lv_iload_n hx hb dX12_loseAll_2 rfl (lv_at hl 0 rfl) ?_
  refine lv_aload_n hx hb dX12_loseAll_3 rfl (lv_at hl 1 rfl) ?_
  refine va_get (D := g.1) (ci := 12) (v := .int (i 7)) (C := RX12) (T := TX12) (N := 66) hx hb hts hw_X12_loseAll_X12 hown hK hP 0 rfl rfl 7 (by decide) (hts (.fieldLink RX12 179 "OilPushModel" "cylinders" "I") (List.mem_of_getElem? (i := 1) rfl)) (fun _ h => h) rfl dX12_loseAll_4 ?_
  refine lv_icmp_ge (tgt := 120) hx hb dX12_loseAll_7 (by decide) (fun c1 => ?_) (fun c1 => ?_)
  · exact retV C hS (aq19_2, aq11_2) ⟨hiv2.2.2, (forX_out c1 hiv2.1)⟩ hP hD (Nat.le_of_ble_eq_true rfl) (Nat.le_of_ble_eq_true rfl) dX12_loseAll_120
  refine lv_aload_n hx hb dX12_loseAll_10 rfl (lv_at hl 1 rfl) ?_
  refine va_get (D := g.1) (ci := 12) (v := .ref (q 19)) (C := RX12) (T := TX12) (N := 66) hx hb hts hw_X12_loseAll_X12 hown hK hP 0 rfl rfl 19 (by decide) (hts (.fieldLink RX12 56 "OilPushModel" "took" "[I") (List.mem_of_getElem? (i := 2) rfl)) (fun _ h => h) rfl dX12_loseAll_11 ?_
  refine lv_iload_n hx hb dX12_loseAll_14 rfl (lv_at hl 0 rfl) ?_
  refine lv_iconst (v := 0) hx hb dX12_loseAll_15 (by decide) ?_
  refine va_iast hx hb hK hP hD hS 1 0 rfl rfl (lt_in hiv2.2.1 c1 h7.2) dX12_loseAll_16 (fun H locs hP hD hS => ?_)
  replace hP : va_P g.1 vwCl [(h0, .inr (12, mO q i L)), ((q 19), .inl (g.2 0, 6, .inl (upd aq19_2 (l1_2.toNatClampNeg) 0))), ((q 18), .inl (g.2 1, 6, .inl a18)), ((q 8), .inl (g.2 0, 6, .inl a8)), ((q 15), .inl (g.2 0, 6, .inl a15)), ((q 11), .inl (g.2 0, 6, .inl aq11_2)), ((q 17), .inl (g.2 0, 6, .inl a17)), ((q 13), .inl (g.2 0, 60, .inl a13)), ((q 12), .inl (g.2 0, 6, .inl a12)), ((q 9), .inl (g.2 0, 6, .inl a9)), ((q 10), .inl (g.2 0, 6, .inl a10)), ((q 16), .inl (g.2 0, 6, .inl a16))] H := hP
  replace hD : va_D A [(h0, .inr (12, mO q i L)), ((q 19), .inl (g.2 0, 6, .inl (upd aq19_2 (l1_2.toNatClampNeg) 0))), ((q 18), .inl (g.2 1, 6, .inl a18)), ((q 8), .inl (g.2 0, 6, .inl a8)), ((q 15), .inl (g.2 0, 6, .inl a15)), ((q 11), .inl (g.2 0, 6, .inl aq11_2)), ((q 17), .inl (g.2 0, 6, .inl a17)), ((q 13), .inl (g.2 0, 60, .inl a13)), ((q 12), .inl (g.2 0, 6, .inl a12)), ((q 9), .inl (g.2 0, 6, .inl a9)), ((q 10), .inl (g.2 0, 6, .inl a10)), ((q 16), .inl (g.2 0, 6, .inl a16))] := hD
  refine lv_aload_n hx hb dX12_loseAll_17 rfl (lv_at hl 1 rfl) ?_
  refine va_get (D := g.1) (ci := 12) (v := .ref (q 18)) (C := RX12) (T := TX12) (N := 66) hx hb hts hw_X12_loseAll_X12 hown hK hP 0 rfl rfl 18 (by decide) (hts (.fieldLink RX12 52 "OilPushModel" "isBurst" "[Z") (List.mem_of_getElem? (i := 3) rfl)) (fun _ h => h) rfl dX12_loseAll_18 ?_
  refine lv_iload_n hx hb dX12_loseAll_21 rfl (lv_at hl 0 rfl) ?_
  refine va_zald hx hb hK hP 2 1 rfl rfl (lt_in hiv2.2.1 c1 h7.2) dX12_loseAll_22 ?_
  refine lv_if_eq (tgt := 53) hx hb dX12_loseAll_23 (by decide) (fun c2 => ?_) (fun c2 => ?_)
  · refine lv_aload_n hx hb dX12_loseAll_53 rfl (lv_at hl 1 rfl) ?_
    refine va_get (D := g.1) (ci := 12) (v := .ref (q 17)) (C := RX12) (T := TX12) (N := 66) hx hb hts hw_X12_loseAll_X12 hown hK hP 0 rfl rfl 17 (by decide) (hts (.fieldLink RX12 49 "OilPushModel" "valves" "[I") (List.mem_of_getElem? (i := 6) rfl)) (fun _ h => h) rfl dX12_loseAll_54 ?_
    refine lv_iload_n hx hb dX12_loseAll_57 rfl (lv_at hl 0 rfl) ?_
    refine va_iald hx hb hK hP 6 0 rfl rfl (lt_in hiv2.2.1 c1 h7.2) dX12_loseAll_58 ?_
    refine lv_iconst (v := 2) hx hb dX12_loseAll_59 (by decide) ?_
    refine lv_icmp_ne (tgt := 77) hx hb dX12_loseAll_60 (by decide) (fun c3 => ?_) (fun c3 => ?_)
    · refine lv_aload_n hx hb dX12_loseAll_77 rfl (lv_at hl 1 rfl) ?_
      refine va_get (D := g.1) (ci := 12) (v := .ref (q 17)) (C := RX12) (T := TX12) (N := 66) hx hb hts hw_X12_loseAll_X12 hown hK hP 0 rfl rfl 17 (by decide) (hts (.fieldLink RX12 49 "OilPushModel" "valves" "[I") (List.mem_of_getElem? (i := 6) rfl)) (fun _ h => h) rfl dX12_loseAll_78 ?_
      refine lv_iload_n hx hb dX12_loseAll_81 rfl (lv_at hl 0 rfl) ?_
      refine va_iald hx hb hK hP 6 0 rfl rfl (lt_in hiv2.2.1 c1 h7.2) dX12_loseAll_82 ?_
      refine lv_if_ne (tgt := 114) hx hb dX12_loseAll_83 (by decide) (fun c4 => ?_) (fun c4 => ?_)
      · refine lv_iinc (v := (l1_2 + 1)) (lv' := [(1, .int (l1_2 + 1)), (0, .ref h0)]) hx hb dX12_loseAll_114 hl (k := 0) rfl rfl (by decide) rfl (fun ls hl => ?_)
        refine lv_goto (tgt := 2) hx hb dX12_loseAll_117 (by decide) ?_
        exact ih2 ((upd aq19_2 (l1_2.toNatClampNeg) 0), aq11_2, (l1_2 + 1)) ls H locs ⟨⟨forX_back c1 (by unfold rlF; rw [if_pos c2, if_neg c3, if_neg c4] <;> rfl) hiv2.1, (by have h9 := inc_toInt c1; have h8 := hiv2.2.1; (try dsimp only); omega), hiv2.2.2⟩, lv_sub hl [0, 1] rfl, hP, hD, hS⟩ (inc_mu2 c1)
      refine lv_aload_n hx hb dX12_loseAll_86 rfl (lv_at hl 1 rfl) ?_
      refine va_get (D := g.1) (ci := 12) (v := .ref (q 8)) (C := RX12) (T := TX12) (N := 66) hx hb hts hw_X12_loseAll_X12 hown hK hP 0 rfl rfl 8 (by decide) (hts (.fieldLink RX12 22 "OilPushModel" "kind" "[I") (List.mem_of_getElem? (i := 4) rfl)) (fun _ h => h) rfl dX12_loseAll_87 ?_
      refine lv_iload_n hx hb dX12_loseAll_90 rfl (lv_at hl 0 rfl) ?_
      refine va_iald hx hb hK hP 3 0 rfl rfl (lt_in hiv2.2.1 c1 h7.2) dX12_loseAll_91 ?_
      refine lv_if_ne (tgt := 114) hx hb dX12_loseAll_92 (by decide) (fun c5 => ?_) (fun c5 => ?_)
      · refine lv_iinc (v := (l1_2 + 1)) (lv' := [(1, .int (l1_2 + 1)), (0, .ref h0)]) hx hb dX12_loseAll_114 hl (k := 0) rfl rfl (by decide) rfl (fun ls hl => ?_)
        refine lv_goto (tgt := 2) hx hb dX12_loseAll_117 (by decide) ?_
        exact ih2 ((upd aq19_2 (l1_2.toNatClampNeg) 0), aq11_2, (l1_2 + 1)) ls H locs ⟨⟨forX_back c1 (by unfold rlF; rw [if_pos c2, if_neg c3, if_pos c4, if_neg c5] <;> rfl) hiv2.1, (by have h9 := inc_toInt c1; have h8 := hiv2.2.1; (try dsimp only); omega), hiv2.2.2⟩, lv_sub hl [0, 1] rfl, hP, hD, hS⟩ (inc_mu2 c1)
      refine lv_aload_n hx hb dX12_loseAll_95 rfl (lv_at hl 1 rfl) ?_
      refine lv_iload_n hx hb dX12_loseAll_96 rfl (lv_at hl 0 rfl) ?_
      refine kI (rnV (As := [.int l1_2]) (rest := []) (Cn := RX12) C (v_loadOf l g h0 q i L aq11_2 a12 a9 a10 a13 l1_2 hM hiv2.2.2 (lt_in hiv2.2.1 c1 h7.2) (lt_of_nle c1)) 1 gX12_loseAll_X12_loadOf rfl (by decide +kernel) ⟨(Nat.le_of_ble_eq_true rfl), (Nat.le_of_ble_eq_true rfl)⟩ hP (k := 0) (ci := 12) rfl rfl rfl rfl hl.1 rfl (Nat.le_of_ble_eq_true rfl) dX12_loseAll_97 ⟨(Nat.le_of_ble_eq_true rfl), (Nat.le_of_ble_eq_true rfl)⟩) (spA (wr := [((q 19), .inl (g.2 0, 6, .inl (upd aq19_2 (l1_2.toNatClampNeg) 0))), ((q 18), .inl (g.2 1, 6, .inl a18)), ((q 8), .inl (g.2 0, 6, .inl a8)), ((q 15), .inl (g.2 0, 6, .inl a15)), ((q 17), .inl (g.2 0, 6, .inl a17)), ((q 16), .inl (g.2 0, 6, .inl a16))]) hP hD [0, 5, 8, 9, 10, 7] [1, 2, 3, 4, 6, 11] rfl rfl rfl rfl (by decide)) hA hS (fun r6 u7 H locs hw hP hD hS => ?_)
      have hre := hw
      replace hP : va_P g.1 vwCl [((q 19), .inl (g.2 0, 6, .inl (upd aq19_2 (l1_2.toNatClampNeg) 0))), ((q 18), .inl (g.2 1, 6, .inl a18)), ((q 8), .inl (g.2 0, 6, .inl a8)), ((q 15), .inl (g.2 0, 6, .inl a15)), ((q 17), .inl (g.2 0, 6, .inl a17)), ((q 16), .inl (g.2 0, 6, .inl a16)), (h0, .inr (12, mO q i L)), ((q 11), .inl (g.2 0, 6, .inl aq11_2)), ((q 12), .inl (g.2 0, 6, .inl a12)), ((q 9), .inl (g.2 0, 6, .inl a9)), ((q 10), .inl (g.2 0, 6, .inl a10)), ((q 13), .inl (g.2 0, 60, .inl a13))] H := hP
      replace hD : va_D A [((q 19), .inl (g.2 0, 6, .inl (upd aq19_2 (l1_2.toNatClampNeg) 0))), ((q 18), .inl (g.2 1, 6, .inl a18)), ((q 8), .inl (g.2 0, 6, .inl a8)), ((q 15), .inl (g.2 0, 6, .inl a15)), ((q 17), .inl (g.2 0, 6, .inl a17)), ((q 16), .inl (g.2 0, 6, .inl a16)), (h0, .inr (12, mO q i L)), ((q 11), .inl (g.2 0, 6, .inl aq11_2)), ((q 12), .inl (g.2 0, 6, .inl a12)), ((q 9), .inl (g.2 0, 6, .inl a9)), ((q 10), .inl (g.2 0, 6, .inl a10)), ((q 13), .inl (g.2 0, 60, .inl a13))] := hD
      refine nx_i (v := (ldM a9 a10 a12 a13 (l1_2.toNatClampNeg) (aq11_2 (l1_2.toNatClampNeg)))) hre ?_
      refine lv_if_le (tgt := 114) hx hb dX12_loseAll_100 (by decide) (fun c8 => ?_) (fun c8 => ?_)
      · refine lv_iinc (v := (l1_2 + 1)) (lv' := [(1, .int (l1_2 + 1)), (0, .ref h0)]) hx hb dX12_loseAll_114 hl (k := 0) rfl rfl (by decide) rfl (fun ls hl => ?_)
        refine lv_goto (tgt := 2) hx hb dX12_loseAll_117 (by decide) ?_
        exact ih2 ((upd aq19_2 (l1_2.toNatClampNeg) 0), aq11_2, (l1_2 + 1)) ls H locs ⟨⟨forX_back c1 (by unfold rlF; rw [if_pos c2, if_neg c3, if_pos c4, if_pos c5, if_pos c8] <;> rfl) hiv2.1, (by have h9 := inc_toInt c1; have h8 := hiv2.2.1; (try dsimp only); omega), hiv2.2.2⟩, lv_sub hl [0, 1] rfl, (hP.pick [6, 0, 1, 2, 3, 7, 4, 11, 8, 9, 10, 5] rfl), (hD.sub [6, 0, 1, 2, 3, 7, 4, 11, 8, 9, 10, 5] (by decide +kernel) rfl), hS⟩ (inc_mu2 c1)
      refine lv_aload_n hx hb dX12_loseAll_103 rfl (lv_at hl 1 rfl) ?_
      refine lv_iload_n hx hb dX12_loseAll_104 rfl (lv_at hl 0 rfl) ?_
      refine lv_aload_n hx hb dX12_loseAll_105 rfl (lv_at hl 1 rfl) ?_
      refine va_get (D := g.1) (ci := 12) (v := .ref (q 16)) (C := RX12) (T := TX12) (N := 66) hx hb hts hw_X12_loseAll_X12 hown hK hP 6 rfl rfl 16 (by decide) (hts (.fieldLink RX12 46 "OilPushModel" "leaks" "[I") (List.mem_of_getElem? (i := 7) rfl)) (fun _ h => h) rfl dX12_loseAll_106 ?_
      refine lv_iload_n hx hb dX12_loseAll_109 rfl (lv_at hl 0 rfl) ?_
      refine va_iald hx hb hK hP 5 0 rfl rfl (lt_in hiv2.2.1 c1 h7.2) dX12_loseAll_110 ?_
      refine kV (rnV (As := [.int l1_2, .int (a16 (l1_2.toNatClampNeg))]) (rest := []) (Cn := RX12) C (g_loseFrom l g h0 q i L aq11_2 (upd aq19_2 (l1_2.toNatClampNeg) 0) l1_2 (a16 (l1_2.toNatClampNeg)) (lt_in hiv2.2.1 c1 h7.2)) 2 gX12_loseAll_X12_loseFrom rfl (by decide +kernel) ⟨(Nat.le_of_ble_eq_true rfl), (Nat.le_of_ble_eq_true rfl)⟩ hP (k := 6) (ci := 12) rfl rfl rfl rfl hl.1 rfl (Nat.le_of_ble_eq_true rfl) dX12_loseAll_111 ⟨(Nat.le_of_ble_eq_true rfl), (Nat.le_of_ble_eq_true rfl)⟩) (spA (wr := [((q 18), .inl (g.2 1, 6, .inl a18)), ((q 8), .inl (g.2 0, 6, .inl a8)), ((q 15), .inl (g.2 0, 6, .inl a15)), ((q 17), .inl (g.2 0, 6, .inl a17)), ((q 16), .inl (g.2 0, 6, .inl a16)), ((q 12), .inl (g.2 0, 6, .inl a12)), ((q 9), .inl (g.2 0, 6, .inl a9)), ((q 10), .inl (g.2 0, 6, .inl a10)), ((q 13), .inl (g.2 0, 60, .inl a13))]) hP hD [6, 7, 0] [1, 2, 3, 4, 5, 8, 9, 10, 11] rfl rfl rfl rfl (by decide)) hA hS (fun u10 H locs hw hP hD hS => ?_)
      replace hP : va_P g.1 vwCl [((q 18), .inl (g.2 1, 6, .inl a18)), ((q 8), .inl (g.2 0, 6, .inl a8)), ((q 15), .inl (g.2 0, 6, .inl a15)), ((q 17), .inl (g.2 0, 6, .inl a17)), ((q 16), .inl (g.2 0, 6, .inl a16)), ((q 12), .inl (g.2 0, 6, .inl a12)), ((q 9), .inl (g.2 0, 6, .inl a9)), ((q 10), .inl (g.2 0, 6, .inl a10)), ((q 13), .inl (g.2 0, 60, .inl a13)), (h0, .inr (12, mO q i L)), ((q 11), .inl (g.2 0, 6, .inl (o_g_loseFrom_q11 aq11_2 l1_2 (a16 (l1_2.toNatClampNeg))))), ((q 19), .inl (g.2 0, 6, .inl (upd (upd aq19_2 (l1_2.toNatClampNeg) 0) (l1_2.toNatClampNeg) (-(r_c_lesser (a16 (l1_2.toNatClampNeg)) (aq11_2 (l1_2.toNatClampNeg)))))))] H := hP
      replace hD : va_D A [((q 18), .inl (g.2 1, 6, .inl a18)), ((q 8), .inl (g.2 0, 6, .inl a8)), ((q 15), .inl (g.2 0, 6, .inl a15)), ((q 17), .inl (g.2 0, 6, .inl a17)), ((q 16), .inl (g.2 0, 6, .inl a16)), ((q 12), .inl (g.2 0, 6, .inl a12)), ((q 9), .inl (g.2 0, 6, .inl a9)), ((q 10), .inl (g.2 0, 6, .inl a10)), ((q 13), .inl (g.2 0, 60, .inl a13)), (h0, .inr (12, mO q i L)), ((q 11), .inl (g.2 0, 6, .inl (o_g_loseFrom_q11 aq11_2 l1_2 (a16 (l1_2.toNatClampNeg))))), ((q 19), .inl (g.2 0, 6, .inl (upd (upd aq19_2 (l1_2.toNatClampNeg) 0) (l1_2.toNatClampNeg) (-(r_c_lesser (a16 (l1_2.toNatClampNeg)) (aq11_2 (l1_2.toNatClampNeg)))))))] := hD
      refine lv_iinc (v := (l1_2 + 1)) (lv' := [(1, .int (l1_2 + 1)), (0, .ref h0)]) hx hb dX12_loseAll_114 hl (k := 0) rfl rfl (by decide) rfl (fun ls hl => ?_)
      refine lv_goto (tgt := 2) hx hb dX12_loseAll_117 (by decide) ?_
      exact ih2 ((upd (upd aq19_2 (l1_2.toNatClampNeg) 0) (l1_2.toNatClampNeg) (-(r_c_lesser (a16 (l1_2.toNatClampNeg)) (aq11_2 (l1_2.toNatClampNeg))))), (o_g_loseFrom_q11 aq11_2 l1_2 (a16 (l1_2.toNatClampNeg))), (l1_2 + 1)) ls H locs ⟨⟨forX_back c1 (by unfold rlF; rw [if_pos c2, if_neg c3, if_pos c4, if_pos c5, if_neg c8] <;> rfl) hiv2.1, (by have h9 := inc_toInt c1; have h8 := hiv2.2.1; (try dsimp only); omega), (OB_lose hiv2.2.2 (hF _).2)⟩, lv_sub hl [0, 1] rfl, (hP.pick [9, 11, 0, 1, 2, 10, 3, 8, 5, 6, 7, 4] rfl), (hD.sub [9, 11, 0, 1, 2, 10, 3, 8, 5, 6, 7, 4] (by decide +kernel) rfl), hS⟩ (inc_mu2 c1)
    refine lv_aload_n hx hb dX12_loseAll_63 rfl (lv_at hl 1 rfl) ?_
    refine lv_iload_n hx hb dX12_loseAll_64 rfl (lv_at hl 0 rfl) ?_
    refine lv_aload_n hx hb dX12_loseAll_65 rfl (lv_at hl 1 rfl) ?_
    refine va_get (D := g.1) (ci := 12) (v := .ref (q 15)) (C := RX12) (T := TX12) (N := 66) hx hb hts hw_X12_loseAll_X12 hown hK hP 0 rfl rfl 15 (by decide) (hts (.fieldLink RX12 43 "OilPushModel" "flow" "[I") (List.mem_of_getElem? (i := 5) rfl)) (fun _ h => h) rfl dX12_loseAll_66 ?_
    refine lv_iload_n hx hb dX12_loseAll_69 rfl (lv_at hl 0 rfl) ?_
    refine va_iald hx hb hK hP 4 0 rfl rfl (lt_in hiv2.2.1 c1 h7.2) dX12_loseAll_70 ?_
    refine kV (rnV (As := [.int l1_2, .int (a15 (l1_2.toNatClampNeg))]) (rest := []) (Cn := RX12) C (g_loseFrom l g h0 q i L aq11_2 (upd aq19_2 (l1_2.toNatClampNeg) 0) l1_2 (a15 (l1_2.toNatClampNeg)) (lt_in hiv2.2.1 c1 h7.2)) 2 gX12_loseAll_X12_loseFrom rfl (by decide +kernel) ⟨(Nat.le_of_ble_eq_true rfl), (Nat.le_of_ble_eq_true rfl)⟩ hP (k := 0) (ci := 12) rfl rfl rfl rfl hl.1 rfl (Nat.le_of_ble_eq_true rfl) dX12_loseAll_71 ⟨(Nat.le_of_ble_eq_true rfl), (Nat.le_of_ble_eq_true rfl)⟩) (spA (wr := [((q 18), .inl (g.2 1, 6, .inl a18)), ((q 8), .inl (g.2 0, 6, .inl a8)), ((q 15), .inl (g.2 0, 6, .inl a15)), ((q 17), .inl (g.2 0, 6, .inl a17)), ((q 13), .inl (g.2 0, 60, .inl a13)), ((q 12), .inl (g.2 0, 6, .inl a12)), ((q 9), .inl (g.2 0, 6, .inl a9)), ((q 10), .inl (g.2 0, 6, .inl a10)), ((q 16), .inl (g.2 0, 6, .inl a16))]) hP hD [0, 5, 1] [2, 3, 4, 6, 7, 8, 9, 10, 11] rfl rfl rfl rfl (by decide)) hA hS (fun u12 H locs hw hP hD hS => ?_)
    replace hP : va_P g.1 vwCl [((q 18), .inl (g.2 1, 6, .inl a18)), ((q 8), .inl (g.2 0, 6, .inl a8)), ((q 15), .inl (g.2 0, 6, .inl a15)), ((q 17), .inl (g.2 0, 6, .inl a17)), ((q 13), .inl (g.2 0, 60, .inl a13)), ((q 12), .inl (g.2 0, 6, .inl a12)), ((q 9), .inl (g.2 0, 6, .inl a9)), ((q 10), .inl (g.2 0, 6, .inl a10)), ((q 16), .inl (g.2 0, 6, .inl a16)), (h0, .inr (12, mO q i L)), ((q 11), .inl (g.2 0, 6, .inl (o_g_loseFrom_q11 aq11_2 l1_2 (a15 (l1_2.toNatClampNeg))))), ((q 19), .inl (g.2 0, 6, .inl (upd (upd aq19_2 (l1_2.toNatClampNeg) 0) (l1_2.toNatClampNeg) (-(r_c_lesser (a15 (l1_2.toNatClampNeg)) (aq11_2 (l1_2.toNatClampNeg)))))))] H := hP
    replace hD : va_D A [((q 18), .inl (g.2 1, 6, .inl a18)), ((q 8), .inl (g.2 0, 6, .inl a8)), ((q 15), .inl (g.2 0, 6, .inl a15)), ((q 17), .inl (g.2 0, 6, .inl a17)), ((q 13), .inl (g.2 0, 60, .inl a13)), ((q 12), .inl (g.2 0, 6, .inl a12)), ((q 9), .inl (g.2 0, 6, .inl a9)), ((q 10), .inl (g.2 0, 6, .inl a10)), ((q 16), .inl (g.2 0, 6, .inl a16)), (h0, .inr (12, mO q i L)), ((q 11), .inl (g.2 0, 6, .inl (o_g_loseFrom_q11 aq11_2 l1_2 (a15 (l1_2.toNatClampNeg))))), ((q 19), .inl (g.2 0, 6, .inl (upd (upd aq19_2 (l1_2.toNatClampNeg) 0) (l1_2.toNatClampNeg) (-(r_c_lesser (a15 (l1_2.toNatClampNeg)) (aq11_2 (l1_2.toNatClampNeg)))))))] := hD
    refine lv_goto (tgt := 114) hx hb dX12_loseAll_74 (by decide) ?_
    refine lv_iinc (v := (l1_2 + 1)) (lv' := [(1, .int (l1_2 + 1)), (0, .ref h0)]) hx hb dX12_loseAll_114 hl (k := 0) rfl rfl (by decide) rfl (fun ls hl => ?_)
    refine lv_goto (tgt := 2) hx hb dX12_loseAll_117 (by decide) ?_
    exact ih2 ((upd (upd aq19_2 (l1_2.toNatClampNeg) 0) (l1_2.toNatClampNeg) (-(r_c_lesser (a15 (l1_2.toNatClampNeg)) (aq11_2 (l1_2.toNatClampNeg))))), (o_g_loseFrom_q11 aq11_2 l1_2 (a15 (l1_2.toNatClampNeg))), (l1_2 + 1)) ls H locs ⟨⟨forX_back c1 (by unfold rlF; rw [if_pos c2, if_pos c3] <;> rfl) hiv2.1, (by have h9 := inc_toInt c1; have h8 := hiv2.2.1; (try dsimp only); omega), (OB_lose hiv2.2.2 (hF _).1.1)⟩, lv_sub hl [0, 1] rfl, (hP.pick [9, 11, 0, 1, 2, 10, 3, 4, 5, 6, 7, 8] rfl), (hD.sub [9, 11, 0, 1, 2, 10, 3, 4, 5, 6, 7, 8] (by decide +kernel) rfl), hS⟩ (inc_mu2 c1)
  refine lv_aload_n hx hb dX12_loseAll_26 rfl (lv_at hl 1 rfl) ?_
  refine lv_iload_n hx hb dX12_loseAll_27 rfl (lv_at hl 0 rfl) ?_
  refine lv_aload_n hx hb dX12_loseAll_28 rfl (lv_at hl 1 rfl) ?_
  refine va_get (D := g.1) (ci := 12) (v := .ref (q 8)) (C := RX12) (T := TX12) (N := 66) hx hb hts hw_X12_loseAll_X12 hown hK hP 0 rfl rfl 8 (by decide) (hts (.fieldLink RX12 22 "OilPushModel" "kind" "[I") (List.mem_of_getElem? (i := 4) rfl)) (fun _ h => h) rfl dX12_loseAll_29 ?_
  refine lv_iload_n hx hb dX12_loseAll_32 rfl (lv_at hl 0 rfl) ?_
  refine va_iald hx hb hK hP 3 0 rfl rfl (lt_in hiv2.2.1 c1 h7.2) dX12_loseAll_33 ?_
  refine lv_if_ne (tgt := 46) hx hb dX12_loseAll_34 (by decide) (fun c13 => ?_) (fun c13 => ?_)
  · refine lv_iconst (v := 0) hx hb dX12_loseAll_46 (by decide) ?_
    refine kV (rnV (As := [.int l1_2, .int 0]) (rest := []) (Cn := RX12) C (g_loseFrom l g h0 q i L aq11_2 (upd aq19_2 (l1_2.toNatClampNeg) 0) l1_2 0 (lt_in hiv2.2.1 c1 h7.2)) 2 gX12_loseAll_X12_loseFrom rfl (by decide +kernel) ⟨(Nat.le_of_ble_eq_true rfl), (Nat.le_of_ble_eq_true rfl)⟩ hP (k := 0) (ci := 12) rfl rfl rfl rfl hl.1 rfl (Nat.le_of_ble_eq_true rfl) dX12_loseAll_47 ⟨(Nat.le_of_ble_eq_true rfl), (Nat.le_of_ble_eq_true rfl)⟩) (spA (wr := [((q 18), .inl (g.2 1, 6, .inl a18)), ((q 8), .inl (g.2 0, 6, .inl a8)), ((q 15), .inl (g.2 0, 6, .inl a15)), ((q 17), .inl (g.2 0, 6, .inl a17)), ((q 13), .inl (g.2 0, 60, .inl a13)), ((q 12), .inl (g.2 0, 6, .inl a12)), ((q 9), .inl (g.2 0, 6, .inl a9)), ((q 10), .inl (g.2 0, 6, .inl a10)), ((q 16), .inl (g.2 0, 6, .inl a16))]) hP hD [0, 5, 1] [2, 3, 4, 6, 7, 8, 9, 10, 11] rfl rfl rfl rfl (by decide)) hA hS (fun u15 H locs hw hP hD hS => ?_)
    replace hP : va_P g.1 vwCl [((q 18), .inl (g.2 1, 6, .inl a18)), ((q 8), .inl (g.2 0, 6, .inl a8)), ((q 15), .inl (g.2 0, 6, .inl a15)), ((q 17), .inl (g.2 0, 6, .inl a17)), ((q 13), .inl (g.2 0, 60, .inl a13)), ((q 12), .inl (g.2 0, 6, .inl a12)), ((q 9), .inl (g.2 0, 6, .inl a9)), ((q 10), .inl (g.2 0, 6, .inl a10)), ((q 16), .inl (g.2 0, 6, .inl a16)), (h0, .inr (12, mO q i L)), ((q 11), .inl (g.2 0, 6, .inl (o_g_loseFrom_q11 aq11_2 l1_2 0))), ((q 19), .inl (g.2 0, 6, .inl (upd (upd aq19_2 (l1_2.toNatClampNeg) 0) (l1_2.toNatClampNeg) (-(r_c_lesser 0 (aq11_2 (l1_2.toNatClampNeg)))))))] H := hP
    replace hD : va_D A [((q 18), .inl (g.2 1, 6, .inl a18)), ((q 8), .inl (g.2 0, 6, .inl a8)), ((q 15), .inl (g.2 0, 6, .inl a15)), ((q 17), .inl (g.2 0, 6, .inl a17)), ((q 13), .inl (g.2 0, 60, .inl a13)), ((q 12), .inl (g.2 0, 6, .inl a12)), ((q 9), .inl (g.2 0, 6, .inl a9)), ((q 10), .inl (g.2 0, 6, .inl a10)), ((q 16), .inl (g.2 0, 6, .inl a16)), (h0, .inr (12, mO q i L)), ((q 11), .inl (g.2 0, 6, .inl (o_g_loseFrom_q11 aq11_2 l1_2 0))), ((q 19), .inl (g.2 0, 6, .inl (upd (upd aq19_2 (l1_2.toNatClampNeg) 0) (l1_2.toNatClampNeg) (-(r_c_lesser 0 (aq11_2 (l1_2.toNatClampNeg)))))))] := hD
    refine lv_goto (tgt := 114) hx hb dX12_loseAll_50 (by decide) ?_
    refine lv_iinc (v := (l1_2 + 1)) (lv' := [(1, .int (l1_2 + 1)), (0, .ref h0)]) hx hb dX12_loseAll_114 hl (k := 0) rfl rfl (by decide) rfl (fun ls hl => ?_)
    refine lv_goto (tgt := 2) hx hb dX12_loseAll_117 (by decide) ?_
    exact ih2 ((upd (upd aq19_2 (l1_2.toNatClampNeg) 0) (l1_2.toNatClampNeg) (-(r_c_lesser 0 (aq11_2 (l1_2.toNatClampNeg))))), (o_g_loseFrom_q11 aq11_2 l1_2 0), (l1_2 + 1)) ls H locs ⟨⟨forX_back c1 (by unfold rlF; rw [if_neg c2, if_neg c13] <;> rfl) hiv2.1, (by have h9 := inc_toInt c1; have h8 := hiv2.2.1; (try dsimp only); omega), (OB_lose hiv2.2.2 z_ge)⟩, lv_sub hl [0, 1] rfl, (hP.pick [9, 11, 0, 1, 2, 10, 3, 4, 5, 6, 7, 8] rfl), (hD.sub [9, 11, 0, 1, 2, 10, 3, 4, 5, 6, 7, 8] (by decide +kernel) rfl), hS⟩ (inc_mu2 c1)
  refine lv_aload_n hx hb dX12_loseAll_37 rfl (lv_at hl 1 rfl) ?_
  refine va_get (D := g.1) (ci := 12) (v := .ref (q 15)) (C := RX12) (T := TX12) (N := 66) hx hb hts hw_X12_loseAll_X12 hown hK hP 0 rfl rfl 15 (by decide) (hts (.fieldLink RX12 43 "OilPushModel" "flow" "[I") (List.mem_of_getElem? (i := 5) rfl)) (fun _ h => h) rfl dX12_loseAll_38 ?_
  refine lv_iload_n hx hb dX12_loseAll_41 rfl (lv_at hl 0 rfl) ?_
  refine va_iald hx hb hK hP 4 0 rfl rfl (lt_in hiv2.2.1 c1 h7.2) dX12_loseAll_42 ?_
  refine lv_goto (tgt := 47) hx hb dX12_loseAll_43 (by decide) ?_
  refine kV (rnV (As := [.int l1_2, .int (a15 (l1_2.toNatClampNeg))]) (rest := []) (Cn := RX12) C (g_loseFrom l g h0 q i L aq11_2 (upd aq19_2 (l1_2.toNatClampNeg) 0) l1_2 (a15 (l1_2.toNatClampNeg)) (lt_in hiv2.2.1 c1 h7.2)) 2 gX12_loseAll_X12_loseFrom rfl (by decide +kernel) ⟨(Nat.le_of_ble_eq_true rfl), (Nat.le_of_ble_eq_true rfl)⟩ hP (k := 0) (ci := 12) rfl rfl rfl rfl hl.1 rfl (Nat.le_of_ble_eq_true rfl) dX12_loseAll_47 ⟨(Nat.le_of_ble_eq_true rfl), (Nat.le_of_ble_eq_true rfl)⟩) (spA (wr := [((q 18), .inl (g.2 1, 6, .inl a18)), ((q 8), .inl (g.2 0, 6, .inl a8)), ((q 15), .inl (g.2 0, 6, .inl a15)), ((q 17), .inl (g.2 0, 6, .inl a17)), ((q 13), .inl (g.2 0, 60, .inl a13)), ((q 12), .inl (g.2 0, 6, .inl a12)), ((q 9), .inl (g.2 0, 6, .inl a9)), ((q 10), .inl (g.2 0, 6, .inl a10)), ((q 16), .inl (g.2 0, 6, .inl a16))]) hP hD [0, 5, 1] [2, 3, 4, 6, 7, 8, 9, 10, 11] rfl rfl rfl rfl (by decide)) hA hS (fun u17 H locs hw hP hD hS => ?_)
  replace hP : va_P g.1 vwCl [((q 18), .inl (g.2 1, 6, .inl a18)), ((q 8), .inl (g.2 0, 6, .inl a8)), ((q 15), .inl (g.2 0, 6, .inl a15)), ((q 17), .inl (g.2 0, 6, .inl a17)), ((q 13), .inl (g.2 0, 60, .inl a13)), ((q 12), .inl (g.2 0, 6, .inl a12)), ((q 9), .inl (g.2 0, 6, .inl a9)), ((q 10), .inl (g.2 0, 6, .inl a10)), ((q 16), .inl (g.2 0, 6, .inl a16)), (h0, .inr (12, mO q i L)), ((q 11), .inl (g.2 0, 6, .inl (o_g_loseFrom_q11 aq11_2 l1_2 (a15 (l1_2.toNatClampNeg))))), ((q 19), .inl (g.2 0, 6, .inl (upd (upd aq19_2 (l1_2.toNatClampNeg) 0) (l1_2.toNatClampNeg) (-(r_c_lesser (a15 (l1_2.toNatClampNeg)) (aq11_2 (l1_2.toNatClampNeg)))))))] H := hP
  replace hD : va_D A [((q 18), .inl (g.2 1, 6, .inl a18)), ((q 8), .inl (g.2 0, 6, .inl a8)), ((q 15), .inl (g.2 0, 6, .inl a15)), ((q 17), .inl (g.2 0, 6, .inl a17)), ((q 13), .inl (g.2 0, 60, .inl a13)), ((q 12), .inl (g.2 0, 6, .inl a12)), ((q 9), .inl (g.2 0, 6, .inl a9)), ((q 10), .inl (g.2 0, 6, .inl a10)), ((q 16), .inl (g.2 0, 6, .inl a16)), (h0, .inr (12, mO q i L)), ((q 11), .inl (g.2 0, 6, .inl (o_g_loseFrom_q11 aq11_2 l1_2 (a15 (l1_2.toNatClampNeg))))), ((q 19), .inl (g.2 0, 6, .inl (upd (upd aq19_2 (l1_2.toNatClampNeg) 0) (l1_2.toNatClampNeg) (-(r_c_lesser (a15 (l1_2.toNatClampNeg)) (aq11_2 (l1_2.toNatClampNeg)))))))] := hD
  refine lv_goto (tgt := 114) hx hb dX12_loseAll_50 (by decide) ?_
  refine lv_iinc (v := (l1_2 + 1)) (lv' := [(1, .int (l1_2 + 1)), (0, .ref h0)]) hx hb dX12_loseAll_114 hl (k := 0) rfl rfl (by decide) rfl (fun ls hl => ?_)
  refine lv_goto (tgt := 2) hx hb dX12_loseAll_117 (by decide) ?_
  exact ih2 ((upd (upd aq19_2 (l1_2.toNatClampNeg) 0) (l1_2.toNatClampNeg) (-(r_c_lesser (a15 (l1_2.toNatClampNeg)) (aq11_2 (l1_2.toNatClampNeg))))), (o_g_loseFrom_q11 aq11_2 l1_2 (a15 (l1_2.toNatClampNeg))), (l1_2 + 1)) ls H locs ⟨⟨forX_back c1 (by unfold rlF; rw [if_neg c2, if_pos c13] <;> rfl) hiv2.1, (by have h9 := inc_toInt c1; have h8 := hiv2.2.1; (try dsimp only); omega), (OB_lose hiv2.2.2 (hF _).1.1)⟩, lv_sub hl [0, 1] rfl, (hP.pick [9, 11, 0, 1, 2, 10, 3, 4, 5, 6, 7, 8] rfl), (hD.sub [9, 11, 0, 1, 2, 10, 3, 4, 5, 6, 7, 8] (by decide +kernel) rfl), hS⟩ (inc_mu2 c1)
