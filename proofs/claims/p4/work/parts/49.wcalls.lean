theorem hw_X12_cylinder_X12 : ∀ w ∈ wsX120, w ∈ wsX12_cylinder := fun w h => List.mem_cons_of_mem _ (List.mem_append_right _ h)
set_option maxRecDepth 100000 in
set_option maxHeartbeats 4000000 in
theorem w_cylinder (l : Launch) (g : Gt) (h0 : Nat) (q : Nat → Nat) (i : Nat → Int32) (L : Nat → Int64) (a8 : Nat → Int32) (a9 : Nat → Int32) (a10 : Nat → Int32) (a12 : Nat → Int32) (a15 : Nat → Int32) (a16 : Nat → Int32) (kd : Int32) (ar : Int32) (sk : Int32) (h7 : 0 ≤ (i 7).toInt ∧ (i 7).toInt ≤ 6) (hM : MCI i a9 a10 a12) (hF : FB a15 a16) : Ctr l g yX12_cylinder wsX12_cylinder ({ frames := 1, cells := 0, slots := 0, locals := 25 } : Room) [.ref h0, .int kd, .int ar, .int sk] [(h0, .inr (12, mO q i L)), ((q 8), .inl (g.2 0, 6, .inl a8)), ((q 9), .inl (g.2 0, 6, .inl a9)), ((q 10), .inl (g.2 0, 6, .inl a10)), ((q 12), .inl (g.2 0, 6, .inl a12)), ((q 15), .inl (g.2 0, 6, .inl a15)), ((q 16), .inl (g.2 0, 6, .inl a16))] (fun A => QI g A (fun r (u : Int32 × (Nat → Int32) × (Nat → Int32) × (Nat → Int32) × (Nat → Int32) × (Nat → Int32)) => (0 ≤ (u.1).toInt ∧ (u.1).toInt ≤ 6) ∧ (MCI (upd i 7 u.1) u.2.2.1 u.2.2.2.1 u.2.2.2.2.1) ∧ (FB u.2.2.2.2.2 a16) ∧ (r = sc_r (i 7) kd ar sk) ∧ (u.1 = sc_n (i 7) kd ar sk) ∧ (u.2.1 = sc_u (i 7) a8 kd ar sk kd) ∧ (u.2.2.1 = sc_u (i 7) a9 kd ar sk ar) ∧ (u.2.2.2.1 = sc_u (i 7) a10 kd ar sk sk) ∧ (u.2.2.2.2.1 = sc_u (i 7) a12 kd ar sk 1) ∧ (u.2.2.2.2.2 = sc_u (i 7) a15 kd ar sk 1000)) (fun (u : Int32 × (Nat → Int32) × (Nat → Int32) × (Nat → Int32) × (Nat → Int32) × (Nat → Int32)) => [(h0, .inr (12, mO q (upd i 7 u.1) L)), ((q 8), .inl (g.2 0, 6, .inl u.2.1)), ((q 9), .inl (g.2 0, 6, .inl u.2.2.1)), ((q 10), .inl (g.2 0, 6, .inl u.2.2.2.1)), ((q 12), .inl (g.2 0, 6, .inl u.2.2.2.2.1)), ((q 15), .inl (g.2 0, 6, .inl u.2.2.2.2.2)), ((q 16), .inl (g.2 0, 6, .inl a16))])) := by
  refine Ctr.of (cc := cX12_cylinder) (maxL := 4) (ret := (some .int)) (by decide) rfl (Nat.le_of_ble_eq_true rfl) ?_
  intro p e s m below meth c A ls H C hP hD hA hS hl
  obtain ⟨hx, hb, hr, hts, hown, hlocks, hml, hin, hKN⟩ := id C
  have hK := hKN.1
  have hN := hKN.2
  have F : CallFix p m c cX12_cylinder 4 s _ wsX12_cylinder yX12_cylinder.cls := ⟨hx, hb, hml, hown, hts⟩
  have hl : lv_has ls 4 [(0, .ref h0), (1, .int kd), (2, .int ar), (3, .int sk)] := hl
  refine lv_iload_n hx hb dX12_cylinder_0 rfl (lv_at hl 1 rfl) ?_
  refine lv_i2l hx hb dX12_cylinder_1 rfl ?_
  refine lv_lconst (v := 0) hx hb dX12_cylinder_2 (by decide) ?_
  refine lv_ldc2 (v := 2) hx hb hown (hts (.constantLong RX12 162 (2)) (List.mem_of_getElem? (i := 1) rfl)) dX12_cylinder_3 ?_
  refine pureIS (As := [.long (Int32.toInt64 kd), .long 0, .long 2]) (rest := []) F (c_in l (Int32.toInt64 kd) 0 2) 3 gX12_cylinder_X12_in rfl (by decide +kernel) rfl rfl ⟨(Nat.le_of_ble_eq_true rfl), (Nat.le_of_ble_eq_true rfl)⟩ (Nat.le_of_ble_eq_true rfl) (Nat.le_of_ble_eq_true rfl) rfl hl.1 rfl (Nat.le_of_ble_eq_true rfl) dX12_cylinder_6 ?_
  refine lv_if_eq (tgt := 36) hx hb dX12_cylinder_9 (by decide) (fun c1 => ?_) (fun c1 => ?_)
  · refine lv_bipush (v := -2) hx hb dX12_cylinder_36 (by decide) ?_
    exact retI C hS ((i 7), a8, a9, a10, a12, a15) ⟨h7, hM, hF, (by simp only [sc_r, sc_n, sc_u, if_pos h7, if_pos hM, if_pos hF, if_pos (show r_c_within kd 0 2 = 0 from (in_within kd 0 2).symm.trans c1), if_pos (show BADC kd ar sk from Or.inl (show r_c_within kd 0 2 = 0 from (in_within kd 0 2).symm.trans c1)), Int32.add_sub_cancel]), (by simp only [sc_r, sc_n, sc_u, if_pos h7, if_pos hM, if_pos hF, if_pos (show r_c_within kd 0 2 = 0 from (in_within kd 0 2).symm.trans c1), if_pos (show BADC kd ar sk from Or.inl (show r_c_within kd 0 2 = 0 from (in_within kd 0 2).symm.trans c1)), Int32.add_sub_cancel]), (by simp only [sc_r, sc_n, sc_u, if_pos h7, if_pos hM, if_pos hF, if_pos (show r_c_within kd 0 2 = 0 from (in_within kd 0 2).symm.trans c1), if_pos (show BADC kd ar sk from Or.inl (show r_c_within kd 0 2 = 0 from (in_within kd 0 2).symm.trans c1)), Int32.add_sub_cancel]), (by simp only [sc_r, sc_n, sc_u, if_pos h7, if_pos hM, if_pos hF, if_pos (show r_c_within kd 0 2 = 0 from (in_within kd 0 2).symm.trans c1), if_pos (show BADC kd ar sk from Or.inl (show r_c_within kd 0 2 = 0 from (in_within kd 0 2).symm.trans c1)), Int32.add_sub_cancel]), (by simp only [sc_r, sc_n, sc_u, if_pos h7, if_pos hM, if_pos hF, if_pos (show r_c_within kd 0 2 = 0 from (in_within kd 0 2).symm.trans c1), if_pos (show BADC kd ar sk from Or.inl (show r_c_within kd 0 2 = 0 from (in_within kd 0 2).symm.trans c1)), Int32.add_sub_cancel]), (by simp only [sc_r, sc_n, sc_u, if_pos h7, if_pos hM, if_pos hF, if_pos (show r_c_within kd 0 2 = 0 from (in_within kd 0 2).symm.trans c1), if_pos (show BADC kd ar sk from Or.inl (show r_c_within kd 0 2 = 0 from (in_within kd 0 2).symm.trans c1)), Int32.add_sub_cancel]), (by simp only [sc_r, sc_n, sc_u, if_pos h7, if_pos hM, if_pos hF, if_pos (show r_c_within kd 0 2 = 0 from (in_within kd 0 2).symm.trans c1), if_pos (show BADC kd ar sk from Or.inl (show r_c_within kd 0 2 = 0 from (in_within kd 0 2).symm.trans c1)), Int32.add_sub_cancel])⟩ hP hD (Nat.le_of_ble_eq_true rfl) (Nat.le_of_ble_eq_true rfl) dX12_cylinder_38
  refine lv_iload_n hx hb dX12_cylinder_12 rfl (lv_at hl 2 rfl) ?_
  refine lv_i2l hx hb dX12_cylinder_13 rfl ?_
  refine lv_lconst (v := 1) hx hb dX12_cylinder_14 (by decide) ?_
  refine lv_ldc2 (v := 100) hx hb hown (hts (.constantLong RX12 187 (100)) (List.mem_of_getElem? (i := 2) rfl)) dX12_cylinder_15 ?_
  refine pureIS (As := [.long (Int32.toInt64 ar), .long 1, .long 100]) (rest := []) F (c_in l (Int32.toInt64 ar) 1 100) 3 gX12_cylinder_X12_in rfl (by decide +kernel) rfl rfl ⟨(Nat.le_of_ble_eq_true rfl), (Nat.le_of_ble_eq_true rfl)⟩ (Nat.le_of_ble_eq_true rfl) (Nat.le_of_ble_eq_true rfl) rfl hl.1 rfl (Nat.le_of_ble_eq_true rfl) dX12_cylinder_18 ?_
  refine lv_if_eq (tgt := 36) hx hb dX12_cylinder_21 (by decide) (fun c2 => ?_) (fun c2 => ?_)
  · refine lv_bipush (v := -2) hx hb dX12_cylinder_36 (by decide) ?_
    exact retI C hS ((i 7), a8, a9, a10, a12, a15) ⟨h7, hM, hF, (by simp only [sc_r, sc_n, sc_u, if_pos h7, if_pos hM, if_pos hF, if_neg (show ¬ r_c_within kd 0 2 = 0 from fun e9 => c1 ((in_within kd 0 2).trans e9)), if_pos (show r_c_within ar 1 100 = 0 from (in_within ar 1 100).symm.trans c2), if_pos (show BADC kd ar sk from Or.inr (Or.inl (show r_c_within ar 1 100 = 0 from (in_within ar 1 100).symm.trans c2))), Int32.add_sub_cancel]), (by simp only [sc_r, sc_n, sc_u, if_pos h7, if_pos hM, if_pos hF, if_neg (show ¬ r_c_within kd 0 2 = 0 from fun e9 => c1 ((in_within kd 0 2).trans e9)), if_pos (show r_c_within ar 1 100 = 0 from (in_within ar 1 100).symm.trans c2), if_pos (show BADC kd ar sk from Or.inr (Or.inl (show r_c_within ar 1 100 = 0 from (in_within ar 1 100).symm.trans c2))), Int32.add_sub_cancel]), (by simp only [sc_r, sc_n, sc_u, if_pos h7, if_pos hM, if_pos hF, if_neg (show ¬ r_c_within kd 0 2 = 0 from fun e9 => c1 ((in_within kd 0 2).trans e9)), if_pos (show r_c_within ar 1 100 = 0 from (in_within ar 1 100).symm.trans c2), if_pos (show BADC kd ar sk from Or.inr (Or.inl (show r_c_within ar 1 100 = 0 from (in_within ar 1 100).symm.trans c2))), Int32.add_sub_cancel]), (by simp only [sc_r, sc_n, sc_u, if_pos h7, if_pos hM, if_pos hF, if_neg (show ¬ r_c_within kd 0 2 = 0 from fun e9 => c1 ((in_within kd 0 2).trans e9)), if_pos (show r_c_within ar 1 100 = 0 from (in_within ar 1 100).symm.trans c2), if_pos (show BADC kd ar sk from Or.inr (Or.inl (show r_c_within ar 1 100 = 0 from (in_within ar 1 100).symm.trans c2))), Int32.add_sub_cancel]), (by simp only [sc_r, sc_n, sc_u, if_pos h7, if_pos hM, if_pos hF, if_neg (show ¬ r_c_within kd 0 2 = 0 from fun e9 => c1 ((in_within kd 0 2).trans e9)), if_pos (show r_c_within ar 1 100 = 0 from (in_within ar 1 100).symm.trans c2), if_pos (show BADC kd ar sk from Or.inr (Or.inl (show r_c_within ar 1 100 = 0 from (in_within ar 1 100).symm.trans c2))), Int32.add_sub_cancel]), (by simp only [sc_r, sc_n, sc_u, if_pos h7, if_pos hM, if_pos hF, if_neg (show ¬ r_c_within kd 0 2 = 0 from fun e9 => c1 ((in_within kd 0 2).trans e9)), if_pos (show r_c_within ar 1 100 = 0 from (in_within ar 1 100).symm.trans c2), if_pos (show BADC kd ar sk from Or.inr (Or.inl (show r_c_within ar 1 100 = 0 from (in_within ar 1 100).symm.trans c2))), Int32.add_sub_cancel]), (by simp only [sc_r, sc_n, sc_u, if_pos h7, if_pos hM, if_pos hF, if_neg (show ¬ r_c_within kd 0 2 = 0 from fun e9 => c1 ((in_within kd 0 2).trans e9)), if_pos (show r_c_within ar 1 100 = 0 from (in_within ar 1 100).symm.trans c2), if_pos (show BADC kd ar sk from Or.inr (Or.inl (show r_c_within ar 1 100 = 0 from (in_within ar 1 100).symm.trans c2))), Int32.add_sub_cancel])⟩ hP hD (Nat.le_of_ble_eq_true rfl) (Nat.le_of_ble_eq_true rfl) dX12_cylinder_38
  refine lv_iload_n hx hb dX12_cylinder_24 rfl (lv_at hl 3 rfl) ?_
  refine lv_i2l hx hb dX12_cylinder_25 rfl ?_
  refine lv_lconst (v := 1) hx hb dX12_cylinder_26 (by decide) ?_
  refine lv_ldc2 (v := 100) hx hb hown (hts (.constantLong RX12 187 (100)) (List.mem_of_getElem? (i := 2) rfl)) dX12_cylinder_27 ?_
  refine pureIS (As := [.long (Int32.toInt64 sk), .long 1, .long 100]) (rest := []) F (c_in l (Int32.toInt64 sk) 1 100) 3 gX12_cylinder_X12_in rfl (by decide +kernel) rfl rfl ⟨(Nat.le_of_ble_eq_true rfl), (Nat.le_of_ble_eq_true rfl)⟩ (Nat.le_of_ble_eq_true rfl) (Nat.le_of_ble_eq_true rfl) rfl hl.1 rfl (Nat.le_of_ble_eq_true rfl) dX12_cylinder_30 ?_
  refine lv_if_ne (tgt := 39) hx hb dX12_cylinder_33 (by decide) (fun c3 => ?_) (fun c3 => ?_)
  · refine lv_aload_n hx hb dX12_cylinder_39 rfl (lv_at hl 0 rfl) ?_
    refine va_get (D := g.1) (ci := 12) (v := .int (i 7)) (C := RX12) (T := TX12) (N := 66) hx hb hts hw_X12_cylinder_X12 hown hK hP 0 rfl rfl 7 (by decide) (hts (.fieldLink RX12 179 "OilPushModel" "cylinders" "I") (List.mem_of_getElem? (i := 3) rfl)) (fun _ h => h) rfl dX12_cylinder_40 ?_
    refine lv_bipush (v := 6) hx hb dX12_cylinder_43 (by decide) ?_
    refine lv_icmp_ne (tgt := 51) hx hb dX12_cylinder_45 (by decide) (fun c4 => ?_) (fun c4 => ?_)
    · refine lv_aload_n hx hb dX12_cylinder_51 rfl (lv_at hl 0 rfl) ?_
      refine va_get (D := g.1) (ci := 12) (v := .ref (q 8)) (C := RX12) (T := TX12) (N := 66) hx hb hts hw_X12_cylinder_X12 hown hK hP 0 rfl rfl 8 (by decide) (hts (.fieldLink RX12 22 "OilPushModel" "kind" "[I") (List.mem_of_getElem? (i := 4) rfl)) (fun _ h => h) rfl dX12_cylinder_52 ?_
      refine lv_aload_n hx hb dX12_cylinder_55 rfl (lv_at hl 0 rfl) ?_
      refine va_get (D := g.1) (ci := 12) (v := .int (i 7)) (C := RX12) (T := TX12) (N := 66) hx hb hts hw_X12_cylinder_X12 hown hK hP 0 rfl rfl 7 (by decide) (hts (.fieldLink RX12 179 "OilPushModel" "cylinders" "I") (List.mem_of_getElem? (i := 3) rfl)) (fun _ h => h) rfl dX12_cylinder_56 ?_
      refine lv_iload_n hx hb dX12_cylinder_59 rfl (lv_at hl 1 rfl) ?_
      refine va_iast hx hb hK hP hD hS 1 0 rfl rfl (at_full (by decide) h7 c4) dX12_cylinder_60 (fun H locs hP hD hS => ?_)
      replace hP : va_P g.1 vwCl [(h0, .inr (12, mO q i L)), ((q 8), .inl (g.2 0, 6, .inl (upd a8 ((i 7).toNatClampNeg) kd))), ((q 9), .inl (g.2 0, 6, .inl a9)), ((q 10), .inl (g.2 0, 6, .inl a10)), ((q 12), .inl (g.2 0, 6, .inl a12)), ((q 15), .inl (g.2 0, 6, .inl a15)), ((q 16), .inl (g.2 0, 6, .inl a16))] H := hP
      replace hD : va_D A [(h0, .inr (12, mO q i L)), ((q 8), .inl (g.2 0, 6, .inl (upd a8 ((i 7).toNatClampNeg) kd))), ((q 9), .inl (g.2 0, 6, .inl a9)), ((q 10), .inl (g.2 0, 6, .inl a10)), ((q 12), .inl (g.2 0, 6, .inl a12)), ((q 15), .inl (g.2 0, 6, .inl a15)), ((q 16), .inl (g.2 0, 6, .inl a16))] := hD
      refine lv_aload_n hx hb dX12_cylinder_61 rfl (lv_at hl 0 rfl) ?_
      refine va_get (D := g.1) (ci := 12) (v := .ref (q 9)) (C := RX12) (T := TX12) (N := 66) hx hb hts hw_X12_cylinder_X12 hown hK hP 0 rfl rfl 9 (by decide) (hts (.fieldLink RX12 25 "OilPushModel" "area" "[I") (List.mem_of_getElem? (i := 5) rfl)) (fun _ h => h) rfl dX12_cylinder_62 ?_
      refine lv_aload_n hx hb dX12_cylinder_65 rfl (lv_at hl 0 rfl) ?_
      refine va_get (D := g.1) (ci := 12) (v := .int (i 7)) (C := RX12) (T := TX12) (N := 66) hx hb hts hw_X12_cylinder_X12 hown hK hP 0 rfl rfl 7 (by decide) (hts (.fieldLink RX12 179 "OilPushModel" "cylinders" "I") (List.mem_of_getElem? (i := 3) rfl)) (fun _ h => h) rfl dX12_cylinder_66 ?_
      refine lv_iload_n hx hb dX12_cylinder_69 rfl (lv_at hl 2 rfl) ?_
      refine va_iast hx hb hK hP hD hS 2 0 rfl rfl (at_full (by decide) h7 c4) dX12_cylinder_70 (fun H locs hP hD hS => ?_)
      replace hP : va_P g.1 vwCl [(h0, .inr (12, mO q i L)), ((q 8), .inl (g.2 0, 6, .inl (upd a8 ((i 7).toNatClampNeg) kd))), ((q 9), .inl (g.2 0, 6, .inl (upd a9 ((i 7).toNatClampNeg) ar))), ((q 10), .inl (g.2 0, 6, .inl a10)), ((q 12), .inl (g.2 0, 6, .inl a12)), ((q 15), .inl (g.2 0, 6, .inl a15)), ((q 16), .inl (g.2 0, 6, .inl a16))] H := hP
      replace hD : va_D A [(h0, .inr (12, mO q i L)), ((q 8), .inl (g.2 0, 6, .inl (upd a8 ((i 7).toNatClampNeg) kd))), ((q 9), .inl (g.2 0, 6, .inl (upd a9 ((i 7).toNatClampNeg) ar))), ((q 10), .inl (g.2 0, 6, .inl a10)), ((q 12), .inl (g.2 0, 6, .inl a12)), ((q 15), .inl (g.2 0, 6, .inl a15)), ((q 16), .inl (g.2 0, 6, .inl a16))] := hD
      refine lv_aload_n hx hb dX12_cylinder_71 rfl (lv_at hl 0 rfl) ?_
      refine va_get (D := g.1) (ci := 12) (v := .ref (q 10)) (C := RX12) (T := TX12) (N := 66) hx hb hts hw_X12_cylinder_X12 hown hK hP 0 rfl rfl 10 (by decide) (hts (.fieldLink RX12 28 "OilPushModel" "stroke" "[I") (List.mem_of_getElem? (i := 6) rfl)) (fun _ h => h) rfl dX12_cylinder_72 ?_
      refine lv_aload_n hx hb dX12_cylinder_75 rfl (lv_at hl 0 rfl) ?_
      refine va_get (D := g.1) (ci := 12) (v := .int (i 7)) (C := RX12) (T := TX12) (N := 66) hx hb hts hw_X12_cylinder_X12 hown hK hP 0 rfl rfl 7 (by decide) (hts (.fieldLink RX12 179 "OilPushModel" "cylinders" "I") (List.mem_of_getElem? (i := 3) rfl)) (fun _ h => h) rfl dX12_cylinder_76 ?_
      refine lv_iload_n hx hb dX12_cylinder_79 rfl (lv_at hl 3 rfl) ?_
      refine va_iast hx hb hK hP hD hS 3 0 rfl rfl (at_full (by decide) h7 c4) dX12_cylinder_80 (fun H locs hP hD hS => ?_)
      replace hP : va_P g.1 vwCl [(h0, .inr (12, mO q i L)), ((q 8), .inl (g.2 0, 6, .inl (upd a8 ((i 7).toNatClampNeg) kd))), ((q 9), .inl (g.2 0, 6, .inl (upd a9 ((i 7).toNatClampNeg) ar))), ((q 10), .inl (g.2 0, 6, .inl (upd a10 ((i 7).toNatClampNeg) sk))), ((q 12), .inl (g.2 0, 6, .inl a12)), ((q 15), .inl (g.2 0, 6, .inl a15)), ((q 16), .inl (g.2 0, 6, .inl a16))] H := hP
      replace hD : va_D A [(h0, .inr (12, mO q i L)), ((q 8), .inl (g.2 0, 6, .inl (upd a8 ((i 7).toNatClampNeg) kd))), ((q 9), .inl (g.2 0, 6, .inl (upd a9 ((i 7).toNatClampNeg) ar))), ((q 10), .inl (g.2 0, 6, .inl (upd a10 ((i 7).toNatClampNeg) sk))), ((q 12), .inl (g.2 0, 6, .inl a12)), ((q 15), .inl (g.2 0, 6, .inl a15)), ((q 16), .inl (g.2 0, 6, .inl a16))] := hD
      refine lv_aload_n hx hb dX12_cylinder_81 rfl (lv_at hl 0 rfl) ?_
      refine va_get (D := g.1) (ci := 12) (v := .ref (q 12)) (C := RX12) (T := TX12) (N := 66) hx hb hts hw_X12_cylinder_X12 hown hK hP 0 rfl rfl 12 (by decide) (hts (.fieldLink RX12 34 "OilPushModel" "loadMany" "[I") (List.mem_of_getElem? (i := 7) rfl)) (fun _ h => h) rfl dX12_cylinder_82 ?_
      refine lv_aload_n hx hb dX12_cylinder_85 rfl (lv_at hl 0 rfl) ?_
      refine va_get (D := g.1) (ci := 12) (v := .int (i 7)) (C := RX12) (T := TX12) (N := 66) hx hb hts hw_X12_cylinder_X12 hown hK hP 0 rfl rfl 7 (by decide) (hts (.fieldLink RX12 179 "OilPushModel" "cylinders" "I") (List.mem_of_getElem? (i := 3) rfl)) (fun _ h => h) rfl dX12_cylinder_86 ?_
      refine lv_iconst (v := 1) hx hb dX12_cylinder_89 (by decide) ?_
      refine va_iast hx hb hK hP hD hS 4 0 rfl rfl (at_full (by decide) h7 c4) dX12_cylinder_90 (fun H locs hP hD hS => ?_)
      replace hP : va_P g.1 vwCl [(h0, .inr (12, mO q i L)), ((q 8), .inl (g.2 0, 6, .inl (upd a8 ((i 7).toNatClampNeg) kd))), ((q 9), .inl (g.2 0, 6, .inl (upd a9 ((i 7).toNatClampNeg) ar))), ((q 10), .inl (g.2 0, 6, .inl (upd a10 ((i 7).toNatClampNeg) sk))), ((q 12), .inl (g.2 0, 6, .inl (upd a12 ((i 7).toNatClampNeg) 1))), ((q 15), .inl (g.2 0, 6, .inl a15)), ((q 16), .inl (g.2 0, 6, .inl a16))] H := hP
      replace hD : va_D A [(h0, .inr (12, mO q i L)), ((q 8), .inl (g.2 0, 6, .inl (upd a8 ((i 7).toNatClampNeg) kd))), ((q 9), .inl (g.2 0, 6, .inl (upd a9 ((i 7).toNatClampNeg) ar))), ((q 10), .inl (g.2 0, 6, .inl (upd a10 ((i 7).toNatClampNeg) sk))), ((q 12), .inl (g.2 0, 6, .inl (upd a12 ((i 7).toNatClampNeg) 1))), ((q 15), .inl (g.2 0, 6, .inl a15)), ((q 16), .inl (g.2 0, 6, .inl a16))] := hD
      refine lv_aload_n hx hb dX12_cylinder_91 rfl (lv_at hl 0 rfl) ?_
      refine va_get (D := g.1) (ci := 12) (v := .ref (q 15)) (C := RX12) (T := TX12) (N := 66) hx hb hts hw_X12_cylinder_X12 hown hK hP 0 rfl rfl 15 (by decide) (hts (.fieldLink RX12 43 "OilPushModel" "flow" "[I") (List.mem_of_getElem? (i := 8) rfl)) (fun _ h => h) rfl dX12_cylinder_92 ?_
      refine lv_aload_n hx hb dX12_cylinder_95 rfl (lv_at hl 0 rfl) ?_
      refine va_get (D := g.1) (ci := 12) (v := .int (i 7)) (C := RX12) (T := TX12) (N := 66) hx hb hts hw_X12_cylinder_X12 hown hK hP 0 rfl rfl 7 (by decide) (hts (.fieldLink RX12 179 "OilPushModel" "cylinders" "I") (List.mem_of_getElem? (i := 3) rfl)) (fun _ h => h) rfl dX12_cylinder_96 ?_
      refine lv_sipush (v := 1000) hx hb dX12_cylinder_99 (by decide) ?_
      refine va_iast hx hb hK hP hD hS 5 0 rfl rfl (at_full (by decide) h7 c4) dX12_cylinder_102 (fun H locs hP hD hS => ?_)
      replace hP : va_P g.1 vwCl [(h0, .inr (12, mO q i L)), ((q 8), .inl (g.2 0, 6, .inl (upd a8 ((i 7).toNatClampNeg) kd))), ((q 9), .inl (g.2 0, 6, .inl (upd a9 ((i 7).toNatClampNeg) ar))), ((q 10), .inl (g.2 0, 6, .inl (upd a10 ((i 7).toNatClampNeg) sk))), ((q 12), .inl (g.2 0, 6, .inl (upd a12 ((i 7).toNatClampNeg) 1))), ((q 15), .inl (g.2 0, 6, .inl (upd a15 ((i 7).toNatClampNeg) 1000))), ((q 16), .inl (g.2 0, 6, .inl a16))] H := hP
      replace hD : va_D A [(h0, .inr (12, mO q i L)), ((q 8), .inl (g.2 0, 6, .inl (upd a8 ((i 7).toNatClampNeg) kd))), ((q 9), .inl (g.2 0, 6, .inl (upd a9 ((i 7).toNatClampNeg) ar))), ((q 10), .inl (g.2 0, 6, .inl (upd a10 ((i 7).toNatClampNeg) sk))), ((q 12), .inl (g.2 0, 6, .inl (upd a12 ((i 7).toNatClampNeg) 1))), ((q 15), .inl (g.2 0, 6, .inl (upd a15 ((i 7).toNatClampNeg) 1000))), ((q 16), .inl (g.2 0, 6, .inl a16))] := hD
      refine lv_aload_n hx hb dX12_cylinder_103 rfl (lv_at hl 0 rfl) ?_
      refine lv_dup hx hb dX12_cylinder_104 rfl ?_
      refine va_get (D := g.1) (ci := 12) (v := .int (i 7)) (C := RX12) (T := TX12) (N := 66) hx hb hts hw_X12_cylinder_X12 hown hK hP 0 rfl rfl 7 (by decide) (hts (.fieldLink RX12 179 "OilPushModel" "cylinders" "I") (List.mem_of_getElem? (i := 3) rfl)) (fun _ h => h) rfl dX12_cylinder_105 ?_
      refine lv_iconst (v := 1) hx hb dX12_cylinder_108 (by decide) ?_
      refine lv_iadd hx hb dX12_cylinder_109 ?_
      refine va_put (D := g.1) (ci := 12) (v := .int ((i 7) + 1)) (ty := .int) (C := RX12) (T := TX12) (N := 66) hx hb hts hw_X12_cylinder_X12 tyX12 tyX12_ok nmX12 hown hK hP hD hS 0 rfl rfl 7 (by decide) (hts (.fieldLink RX12 179 "OilPushModel" "cylinders" "I") (List.mem_of_getElem? (i := 3) rfl)) (fun _ h => h) rfl (by decide +kernel) rfl rfl (Nat.le_of_ble_eq_true rfl) dX12_cylinder_110 (fun H locs hP hD hS => ?_)
      replace hP : va_P g.1 vwCl [(h0, .inr (12, mO q (upd i 7 ((i 7) + 1)) L)), ((q 8), .inl (g.2 0, 6, .inl (upd a8 ((i 7).toNatClampNeg) kd))), ((q 9), .inl (g.2 0, 6, .inl (upd a9 ((i 7).toNatClampNeg) ar))), ((q 10), .inl (g.2 0, 6, .inl (upd a10 ((i 7).toNatClampNeg) sk))), ((q 12), .inl (g.2 0, 6, .inl (upd a12 ((i 7).toNatClampNeg) 1))), ((q 15), .inl (g.2 0, 6, .inl (upd a15 ((i 7).toNatClampNeg) 1000))), ((q 16), .inl (g.2 0, 6, .inl a16))] H := hP
      replace hD : va_D A [(h0, .inr (12, mO q (upd i 7 ((i 7) + 1)) L)), ((q 8), .inl (g.2 0, 6, .inl (upd a8 ((i 7).toNatClampNeg) kd))), ((q 9), .inl (g.2 0, 6, .inl (upd a9 ((i 7).toNatClampNeg) ar))), ((q 10), .inl (g.2 0, 6, .inl (upd a10 ((i 7).toNatClampNeg) sk))), ((q 12), .inl (g.2 0, 6, .inl (upd a12 ((i 7).toNatClampNeg) 1))), ((q 15), .inl (g.2 0, 6, .inl (upd a15 ((i 7).toNatClampNeg) 1000))), ((q 16), .inl (g.2 0, 6, .inl a16))] := hD
      refine lv_aload_n hx hb dX12_cylinder_113 rfl (lv_at hl 0 rfl) ?_
      refine va_get (D := g.1) (ci := 12) (v := .int ((i 7) + 1)) (C := RX12) (T := TX12) (N := 66) hx hb hts hw_X12_cylinder_X12 hown hK hP 0 rfl rfl 7 (by decide) (hts (.fieldLink RX12 179 "OilPushModel" "cylinders" "I") (List.mem_of_getElem? (i := 3) rfl)) (fun _ h => h) rfl dX12_cylinder_114 ?_
      refine lv_iconst (v := 1) hx hb dX12_cylinder_117 (by decide) ?_
      refine lv_isub hx hb dX12_cylinder_118 ?_
      exact retI C hS (((i 7) + 1), (upd a8 ((i 7).toNatClampNeg) kd), (upd a9 ((i 7).toNatClampNeg) ar), (upd a10 ((i 7).toNatClampNeg) sk), (upd a12 ((i 7).toNatClampNeg) 1), (upd a15 ((i 7).toNatClampNeg) 1000)) ⟨(MCI_new h7 hM (in_l c2) (in_l c3) c4).1, (MCI_new h7 hM (in_l c2) (in_l c3) c4).2, (FB_fl hF ⟨by decide, by decide⟩), (by simp only [sc_r, sc_n, sc_u, if_pos h7, if_pos hM, if_pos hF, if_neg (show ¬ r_c_within kd 0 2 = 0 from fun e9 => c1 ((in_within kd 0 2).trans e9)), if_neg (show ¬ r_c_within ar 1 100 = 0 from fun e9 => c2 ((in_within ar 1 100).trans e9)), if_neg (show ¬ r_c_within sk 1 100 = 0 from fun e9 => c3 ((in_within sk 1 100).trans e9)), if_neg c4, if_neg (show ¬ BADC kd ar sk from fun e9 => e9.elim (show ¬ r_c_within kd 0 2 = 0 from fun e9 => c1 ((in_within kd 0 2).trans e9)) (fun e9 => e9.elim (show ¬ r_c_within ar 1 100 = 0 from fun e9 => c2 ((in_within ar 1 100).trans e9)) (show ¬ r_c_within sk 1 100 = 0 from fun e9 => c3 ((in_within sk 1 100).trans e9)))), Int32.add_sub_cancel]), (by simp only [sc_r, sc_n, sc_u, if_pos h7, if_pos hM, if_pos hF, if_neg (show ¬ r_c_within kd 0 2 = 0 from fun e9 => c1 ((in_within kd 0 2).trans e9)), if_neg (show ¬ r_c_within ar 1 100 = 0 from fun e9 => c2 ((in_within ar 1 100).trans e9)), if_neg (show ¬ r_c_within sk 1 100 = 0 from fun e9 => c3 ((in_within sk 1 100).trans e9)), if_neg c4, if_neg (show ¬ BADC kd ar sk from fun e9 => e9.elim (show ¬ r_c_within kd 0 2 = 0 from fun e9 => c1 ((in_within kd 0 2).trans e9)) (fun e9 => e9.elim (show ¬ r_c_within ar 1 100 = 0 from fun e9 => c2 ((in_within ar 1 100).trans e9)) (show ¬ r_c_within sk 1 100 = 0 from fun e9 => c3 ((in_within sk 1 100).trans e9)))), Int32.add_sub_cancel]), (by simp only [sc_r, sc_n, sc_u, if_pos h7, if_pos hM, if_pos hF, if_neg (show ¬ r_c_within kd 0 2 = 0 from fun e9 => c1 ((in_within kd 0 2).trans e9)), if_neg (show ¬ r_c_within ar 1 100 = 0 from fun e9 => c2 ((in_within ar 1 100).trans e9)), if_neg (show ¬ r_c_within sk 1 100 = 0 from fun e9 => c3 ((in_within sk 1 100).trans e9)), if_neg c4, if_neg (show ¬ BADC kd ar sk from fun e9 => e9.elim (show ¬ r_c_within kd 0 2 = 0 from fun e9 => c1 ((in_within kd 0 2).trans e9)) (fun e9 => e9.elim (show ¬ r_c_within ar 1 100 = 0 from fun e9 => c2 ((in_within ar 1 100).trans e9)) (show ¬ r_c_within sk 1 100 = 0 from fun e9 => c3 ((in_within sk 1 100).trans e9)))), Int32.add_sub_cancel]), (by simp only [sc_r, sc_n, sc_u, if_pos h7, if_pos hM, if_pos hF, if_neg (show ¬ r_c_within kd 0 2 = 0 from fun e9 => c1 ((in_within kd 0 2).trans e9)), if_neg (show ¬ r_c_within ar 1 100 = 0 from fun e9 => c2 ((in_within ar 1 100).trans e9)), if_neg (show ¬ r_c_within sk 1 100 = 0 from fun e9 => c3 ((in_within sk 1 100).trans e9)), if_neg c4, if_neg (show ¬ BADC kd ar sk from fun e9 => e9.elim (show ¬ r_c_within kd 0 2 = 0 from fun e9 => c1 ((in_within kd 0 2).trans e9)) (fun e9 => e9.elim (show ¬ r_c_within ar 1 100 = 0 from fun e9 => c2 ((in_within ar 1 100).trans e9)) (show ¬ r_c_within sk 1 100 = 0 from fun e9 => c3 ((in_within sk 1 100).trans e9)))), Int32.add_sub_cancel]), (by simp only [sc_r, sc_n, sc_u, if_pos h7, if_pos hM, if_pos hF, if_neg (show ¬ r_c_within kd 0 2 = 0 from fun e9 => c1 ((in_within kd 0 2).trans e9)), if_neg (show ¬ r_c_within ar 1 100 = 0 from fun e9 => c2 ((in_within ar 1 100).trans e9)), if_neg (show ¬ r_c_within sk 1 100 = 0 from fun e9 => c3 ((in_within sk 1 100).trans e9)), if_neg c4, if_neg (show ¬ BADC kd ar sk from fun e9 => e9.elim (show ¬ r_c_within kd 0 2 = 0 from fun e9 => c1 ((in_within kd 0 2).trans e9)) (fun e9 => e9.elim (show ¬ r_c_within ar 1 100 = 0 from fun e9 => c2 ((in_within ar 1 100).trans e9)) (show ¬ r_c_within sk 1 100 = 0 from fun e9 => c3 ((in_within sk 1 100).trans e9)))), Int32.add_sub_cancel]), (by simp only [sc_r, sc_n, sc_u, if_pos h7, if_pos hM, if_pos hF, if_neg (show ¬ r_c_within kd 0 2 = 0 from fun e9 => c1 ((in_within kd 0 2).trans e9)), if_neg (show ¬ r_c_within ar 1 100 = 0 from fun e9 => c2 ((in_within ar 1 100).trans e9)), if_neg (show ¬ r_c_within sk 1 100 = 0 from fun e9 => c3 ((in_within sk 1 100).trans e9)), if_neg c4, if_neg (show ¬ BADC kd ar sk from fun e9 => e9.elim (show ¬ r_c_within kd 0 2 = 0 from fun e9 => c1 ((in_within kd 0 2).trans e9)) (fun e9 => e9.elim (show ¬ r_c_within ar 1 100 = 0 from fun e9 => c2 ((in_within ar 1 100).trans e9)) (show ¬ r_c_within sk 1 100 = 0 from fun e9 => c3 ((in_within sk 1 100).trans e9)))), Int32.add_sub_cancel]), (by simp only [sc_r, sc_n, sc_u, if_pos h7, if_pos hM, if_pos hF, if_neg (show ¬ r_c_within kd 0 2 = 0 from fun e9 => c1 ((in_within kd 0 2).trans e9)), if_neg (show ¬ r_c_within ar 1 100 = 0 from fun e9 => c2 ((in_within ar 1 100).trans e9)), if_neg (show ¬ r_c_within sk 1 100 = 0 from fun e9 => c3 ((in_within sk 1 100).trans e9)), if_neg c4, if_neg (show ¬ BADC kd ar sk from fun e9 => e9.elim (show ¬ r_c_within kd 0 2 = 0 from fun e9 => c1 ((in_within kd 0 2).trans e9)) (fun e9 => e9.elim (show ¬ r_c_within ar 1 100 = 0 from fun e9 => c2 ((in_within ar 1 100).trans e9)) (show ¬ r_c_within sk 1 100 = 0 from fun e9 => c3 ((in_within sk 1 100).trans e9)))), Int32.add_sub_cancel])⟩ hP hD (Nat.le_of_ble_eq_true rfl) (Nat.le_of_ble_eq_true rfl) dX12_cylinder_119
    refine lv_bipush (v := -4) hx hb dX12_cylinder_48 (by decide) ?_
    exact retI C hS ((i 7), a8, a9, a10, a12, a15) ⟨h7, hM, hF, (by simp only [sc_r, sc_n, sc_u, if_pos h7, if_pos hM, if_pos hF, if_neg (show ¬ r_c_within kd 0 2 = 0 from fun e9 => c1 ((in_within kd 0 2).trans e9)), if_neg (show ¬ r_c_within ar 1 100 = 0 from fun e9 => c2 ((in_within ar 1 100).trans e9)), if_neg (show ¬ r_c_within sk 1 100 = 0 from fun e9 => c3 ((in_within sk 1 100).trans e9)), if_pos c4, if_neg (show ¬ BADC kd ar sk from fun e9 => e9.elim (show ¬ r_c_within kd 0 2 = 0 from fun e9 => c1 ((in_within kd 0 2).trans e9)) (fun e9 => e9.elim (show ¬ r_c_within ar 1 100 = 0 from fun e9 => c2 ((in_within ar 1 100).trans e9)) (show ¬ r_c_within sk 1 100 = 0 from fun e9 => c3 ((in_within sk 1 100).trans e9)))), Int32.add_sub_cancel]), (by simp only [sc_r, sc_n, sc_u, if_pos h7, if_pos hM, if_pos hF, if_neg (show ¬ r_c_within kd 0 2 = 0 from fun e9 => c1 ((in_within kd 0 2).trans e9)), if_neg (show ¬ r_c_within ar 1 100 = 0 from fun e9 => c2 ((in_within ar 1 100).trans e9)), if_neg (show ¬ r_c_within sk 1 100 = 0 from fun e9 => c3 ((in_within sk 1 100).trans e9)), if_pos c4, if_neg (show ¬ BADC kd ar sk from fun e9 => e9.elim (show ¬ r_c_within kd 0 2 = 0 from fun e9 => c1 ((in_within kd 0 2).trans e9)) (fun e9 => e9.elim (show ¬ r_c_within ar 1 100 = 0 from fun e9 => c2 ((in_within ar 1 100).trans e9)) (show ¬ r_c_within sk 1 100 = 0 from fun e9 => c3 ((in_within sk 1 100).trans e9)))), Int32.add_sub_cancel]), (by simp only [sc_r, sc_n, sc_u, if_pos h7, if_pos hM, if_pos hF, if_neg (show ¬ r_c_within kd 0 2 = 0 from fun e9 => c1 ((in_within kd 0 2).trans e9)), if_neg (show ¬ r_c_within ar 1 100 = 0 from fun e9 => c2 ((in_within ar 1 100).trans e9)), if_neg (show ¬ r_c_within sk 1 100 = 0 from fun e9 => c3 ((in_within sk 1 100).trans e9)), if_pos c4, if_neg (show ¬ BADC kd ar sk from fun e9 => e9.elim (show ¬ r_c_within kd 0 2 = 0 from fun e9 => c1 ((in_within kd 0 2).trans e9)) (fun e9 => e9.elim (show ¬ r_c_within ar 1 100 = 0 from fun e9 => c2 ((in_within ar 1 100).trans e9)) (show ¬ r_c_within sk 1 100 = 0 from fun e9 => c3 ((in_within sk 1 100).trans e9)))), Int32.add_sub_cancel]), (by simp only [sc_r, sc_n, sc_u, if_pos h7, if_pos hM, if_pos hF, if_neg (show ¬ r_c_within kd 0 2 = 0 from fun e9 => c1 ((in_within kd 0 2).trans e9)), if_neg (show ¬ r_c_within ar 1 100 = 0 from fun e9 => c2 ((in_within ar 1 100).trans e9)), if_neg (show ¬ r_c_within sk 1 100 = 0 from fun e9 => c3 ((in_within sk 1 100).trans e9)), if_pos c4, if_neg (show ¬ BADC kd ar sk from fun e9 => e9.elim (show ¬ r_c_within kd 0 2 = 0 from fun e9 => c1 ((in_within kd 0 2).trans e9)) (fun e9 => e9.elim (show ¬ r_c_within ar 1 100 = 0 from fun e9 => c2 ((in_within ar 1 100).trans e9)) (show ¬ r_c_within sk 1 100 = 0 from fun e9 => c3 ((in_within sk 1 100).trans e9)))), Int32.add_sub_cancel]), (by simp only [sc_r, sc_n, sc_u, if_pos h7, if_pos hM, if_pos hF, if_neg (show ¬ r_c_within kd 0 2 = 0 from fun e9 => c1 ((in_within kd 0 2).trans e9)), if_neg (show ¬ r_c_within ar 1 100 = 0 from fun e9 => c2 ((in_within ar 1 100).trans e9)), if_neg (show ¬ r_c_within sk 1 100 = 0 from fun e9 => c3 ((in_within sk 1 100).trans e9)), if_pos c4, if_neg (show ¬ BADC kd ar sk from fun e9 => e9.elim (show ¬ r_c_within kd 0 2 = 0 from fun e9 => c1 ((in_within kd 0 2).trans e9)) (fun e9 => e9.elim (show ¬ r_c_within ar 1 100 = 0 from fun e9 => c2 ((in_within ar 1 100).trans e9)) (show ¬ r_c_within sk 1 100 = 0 from fun e9 => c3 ((in_within sk 1 100).trans e9)))), Int32.add_sub_cancel]), (by simp only [sc_r, sc_n, sc_u, if_pos h7, if_pos hM, if_pos hF, if_neg (show ¬ r_c_within kd 0 2 = 0 from fun e9 => c1 ((in_within kd 0 2).trans e9)), if_neg (show ¬ r_c_within ar 1 100 = 0 from fun e9 => c2 ((in_within ar 1 100).trans e9)), if_neg (show ¬ r_c_within sk 1 100 = 0 from fun e9 => c3 ((in_within sk 1 100).trans e9)), if_pos c4, if_neg (show ¬ BADC kd ar sk from fun e9 => e9.elim (show ¬ r_c_within kd 0 2 = 0 from fun e9 => c1 ((in_within kd 0 2).trans e9)) (fun e9 => e9.elim (show ¬ r_c_within ar 1 100 = 0 from fun e9 => c2 ((in_within ar 1 100).trans e9)) (show ¬ r_c_within sk 1 100 = 0 from fun e9 => c3 ((in_within sk 1 100).trans e9)))), Int32.add_sub_cancel]), (by simp only [sc_r, sc_n, sc_u, if_pos h7, if_pos hM, if_pos hF, if_neg (show ¬ r_c_within kd 0 2 = 0 from fun e9 => c1 ((in_within kd 0 2).trans e9)), if_neg (show ¬ r_c_within ar 1 100 = 0 from fun e9 => c2 ((in_within ar 1 100).trans e9)), if_neg (show ¬ r_c_within sk 1 100 = 0 from fun e9 => c3 ((in_within sk 1 100).trans e9)), if_pos c4, if_neg (show ¬ BADC kd ar sk from fun e9 => e9.elim (show ¬ r_c_within kd 0 2 = 0 from fun e9 => c1 ((in_within kd 0 2).trans e9)) (fun e9 => e9.elim (show ¬ r_c_within ar 1 100 = 0 from fun e9 => c2 ((in_within ar 1 100).trans e9)) (show ¬ r_c_within sk 1 100 = 0 from fun e9 => c3 ((in_within sk 1 100).trans e9)))), Int32.add_sub_cancel])⟩ hP hD (Nat.le_of_ble_eq_true rfl) (Nat.le_of_ble_eq_true rfl) dX12_cylinder_50
  refine lv_bipush (v := -2) hx hb dX12_cylinder_36 (by decide) ?_
  exact retI C hS ((i 7), a8, a9, a10, a12, a15) ⟨h7, hM, hF, (by simp only [sc_r, sc_n, sc_u, if_pos h7, if_pos hM, if_pos hF, if_neg (show ¬ r_c_within kd 0 2 = 0 from fun e9 => c1 ((in_within kd 0 2).trans e9)), if_neg (show ¬ r_c_within ar 1 100 = 0 from fun e9 => c2 ((in_within ar 1 100).trans e9)), if_pos (show r_c_within sk 1 100 = 0 from (in_within sk 1 100).symm.trans c3), if_pos (show BADC kd ar sk from Or.inr (Or.inr (show r_c_within sk 1 100 = 0 from (in_within sk 1 100).symm.trans c3))), Int32.add_sub_cancel]), (by simp only [sc_r, sc_n, sc_u, if_pos h7, if_pos hM, if_pos hF, if_neg (show ¬ r_c_within kd 0 2 = 0 from fun e9 => c1 ((in_within kd 0 2).trans e9)), if_neg (show ¬ r_c_within ar 1 100 = 0 from fun e9 => c2 ((in_within ar 1 100).trans e9)), if_pos (show r_c_within sk 1 100 = 0 from (in_within sk 1 100).symm.trans c3), if_pos (show BADC kd ar sk from Or.inr (Or.inr (show r_c_within sk 1 100 = 0 from (in_within sk 1 100).symm.trans c3))), Int32.add_sub_cancel]), (by simp only [sc_r, sc_n, sc_u, if_pos h7, if_pos hM, if_pos hF, if_neg (show ¬ r_c_within kd 0 2 = 0 from fun e9 => c1 ((in_within kd 0 2).trans e9)), if_neg (show ¬ r_c_within ar 1 100 = 0 from fun e9 => c2 ((in_within ar 1 100).trans e9)), if_pos (show r_c_within sk 1 100 = 0 from (in_within sk 1 100).symm.trans c3), if_pos (show BADC kd ar sk from Or.inr (Or.inr (show r_c_within sk 1 100 = 0 from (in_within sk 1 100).symm.trans c3))), Int32.add_sub_cancel]), (by simp only [sc_r, sc_n, sc_u, if_pos h7, if_pos hM, if_pos hF, if_neg (show ¬ r_c_within kd 0 2 = 0 from fun e9 => c1 ((in_within kd 0 2).trans e9)), if_neg (show ¬ r_c_within ar 1 100 = 0 from fun e9 => c2 ((in_within ar 1 100).trans e9)), if_pos (show r_c_within sk 1 100 = 0 from (in_within sk 1 100).symm.trans c3), if_pos (show BADC kd ar sk from Or.inr (Or.inr (show r_c_within sk 1 100 = 0 from (in_within sk 1 100).symm.trans c3))), Int32.add_sub_cancel]), (by simp only [sc_r, sc_n, sc_u, if_pos h7, if_pos hM, if_pos hF, if_neg (show ¬ r_c_within kd 0 2 = 0 from fun e9 => c1 ((in_within kd 0 2).trans e9)), if_neg (show ¬ r_c_within ar 1 100 = 0 from fun e9 => c2 ((in_within ar 1 100).trans e9)), if_pos (show r_c_within sk 1 100 = 0 from (in_within sk 1 100).symm.trans c3), if_pos (show BADC kd ar sk from Or.inr (Or.inr (show r_c_within sk 1 100 = 0 from (in_within sk 1 100).symm.trans c3))), Int32.add_sub_cancel]), (by simp only [sc_r, sc_n, sc_u, if_pos h7, if_pos hM, if_pos hF, if_neg (show ¬ r_c_within kd 0 2 = 0 from fun e9 => c1 ((in_within kd 0 2).trans e9)), if_neg (show ¬ r_c_within ar 1 100 = 0 from fun e9 => c2 ((in_within ar 1 100).trans e9)), if_pos (show r_c_within sk 1 100 = 0 from (in_within sk 1 100).symm.trans c3), if_pos (show BADC kd ar sk from Or.inr (Or.inr (show r_c_within sk 1 100 = 0 from (in_within sk 1 100).symm.trans c3))), Int32.add_sub_cancel]), (by simp only [sc_r, sc_n, sc_u, if_pos h7, if_pos hM, if_pos hF, if_neg (show ¬ r_c_within kd 0 2 = 0 from fun e9 => c1 ((in_within kd 0 2).trans e9)), if_neg (show ¬ r_c_within ar 1 100 = 0 from fun e9 => c2 ((in_within ar 1 100).trans e9)), if_pos (show r_c_within sk 1 100 = 0 from (in_within sk 1 100).symm.trans c3), if_pos (show BADC kd ar sk from Or.inr (Or.inr (show r_c_within sk 1 100 = 0 from (in_within sk 1 100).symm.trans c3))), Int32.add_sub_cancel])⟩ hP hD (Nat.le_of_ble_eq_true rfl) (Nat.le_of_ble_eq_true rfl) dX12_cylinder_38
theorem hw_X12_rule_X12 : ∀ w ∈ wsX120, w ∈ wsX12_rule := fun w h => List.mem_cons_of_mem _ (List.mem_append_right _ h)
set_option maxRecDepth 100000 in
set_option maxHeartbeats 4000000 in
theorem w_rule (l : Launch) (g : Gt) (h0 : Nat) (q : Nat → Nat) (i : Nat → Int32) (L : Nat → Int64) (a14 : Nat → Int32) (a15 : Nat → Int32) (a16 : Nat → Int32) (cy : Int32) (what : Int32) (v : Int32) (h7 : 0 ≤ (i 7).toInt ∧ (i 7).toInt ≤ 6) (hF : FB a15 a16) : Ctr l g yX12_rule wsX12_rule ({ frames := 2, cells := 0, slots := 0, locals := 46 } : Room) [.ref h0, .int cy, .int what, .int v] [(h0, .inr (12, mO q i L)), ((q 14), .inl (g.2 0, 6, .inl a14)), ((q 15), .inl (g.2 0, 6, .inl a15)), ((q 16), .inl (g.2 0, 6, .inl a16))] (fun A => QI g A (fun r (u : (Nat → Int32) × (Nat → Int32) × (Nat → Int32)) => (FB u.2.1 u.2.2) ∧ (r = rm_r (i 7) a14 a15 a16 cy what v) ∧ (u.1 = ru_c (i 7) a14 cy what v) ∧ (u.2.1 = ru_f (i 7) a15 cy what v) ∧ (u.2.2 = rm_k (i 7) a16 cy what v)) (fun (u : (Nat → Int32) × (Nat → Int32) × (Nat → Int32)) => [(h0, .inr (12, mO q i L)), ((q 14), .inl (g.2 0, 6, .inl u.1)), ((q 15), .inl (g.2 0, 6, .inl u.2.1)), ((q 16), .inl (g.2 0, 6, .inl u.2.2))])) := by
  refine Ctr.of (cc := cX12_rule) (maxL := 5) (ret := (some .int)) (by decide) rfl (Nat.le_of_ble_eq_true rfl) ?_
  intro p e s m below meth c A ls H C hP hD hA hS hl
  obtain ⟨hx, hb, hr, hts, hown, hlocks, hml, hin, hKN⟩ := id C
  have hK := hKN.1
  have hN := hKN.2
  have F : CallFix p m c cX12_rule 5 s _ wsX12_rule yX12_rule.cls := ⟨hx, hb, hml, hown, hts⟩
  have hl : lv_has ls 5 [(0, .ref h0), (1, .int cy), (2, .int what), (3, .int v)] := hl
  refine lv_aload_n hx hb dX12_rule_0 rfl (lv_at hl 0 rfl) ?_
  refine lv_iload_n hx hb dX12_rule_1 rfl (lv_at hl 1 rfl) ?_
  refine kI (rnV (As := [.int cy]) (rest := []) (Cn := RX12) C (g_noCylinder l g h0 q i L cy) 1 gX12_rule_X12_noCylinder rfl (by decide +kernel) ⟨(Nat.le_of_ble_eq_true rfl), (Nat.le_of_ble_eq_true rfl)⟩ hP (k := 0) (ci := 12) rfl rfl rfl rfl hl.1 rfl (Nat.le_of_ble_eq_true rfl) dX12_rule_2 ⟨(Nat.le_of_ble_eq_true rfl), (Nat.le_of_ble_eq_true rfl)⟩) (spM0 [true, false, false, false] hP hD rfl) hA hS (fun r1 u2 H locs hw hP hD hS => ?_)
  have hre := hw
  replace hP : va_P g.1 vwCl [(h0, .inr (12, mO q i L)), ((q 14), .inl (g.2 0, 6, .inl a14)), ((q 15), .inl (g.2 0, 6, .inl a15)), ((q 16), .inl (g.2 0, 6, .inl a16))] H := hP
  replace hD : va_D A [(h0, .inr (12, mO q i L)), ((q 14), .inl (g.2 0, 6, .inl a14)), ((q 15), .inl (g.2 0, 6, .inl a15)), ((q 16), .inl (g.2 0, 6, .inl a16))] := hD
  refine nx_i (v := (r_g_noCylinder i cy)) hre ?_
  refine lv_if_ne (tgt := 20) hx hb dX12_rule_5 (by decide) (fun c3 => ?_) (fun c3 => ?_)
  · refine lv_iconst (v := -1) hx hb dX12_rule_20 (by decide) ?_
    exact retI C hS (a14, a15, a16) ⟨hF, (by simp only [rm_r, rm_k, ru_c, ru_f, if_pos h7, if_pos hF, if_pos (nc_y h7 c3), upd_self]), (by simp only [rm_r, rm_k, ru_c, ru_f, if_pos h7, if_pos hF, if_pos (nc_y h7 c3), upd_self]), (by simp only [rm_r, rm_k, ru_c, ru_f, if_pos h7, if_pos hF, if_pos (nc_y h7 c3), upd_self]), (by simp only [rm_r, rm_k, ru_c, ru_f, if_pos h7, if_pos hF, if_pos (nc_y h7 c3), upd_self])⟩ hP hD (Nat.le_of_ble_eq_true rfl) (Nat.le_of_ble_eq_true rfl) dX12_rule_21
  refine lv_iload_n hx hb dX12_rule_8 rfl (lv_at hl 2 rfl) ?_
  refine lv_i2l hx hb dX12_rule_9 rfl ?_
  refine lv_lconst (v := 0) hx hb dX12_rule_10 (by decide) ?_
  refine lv_ldc2 (v := 2) hx hb hown (hts (.constantLong RX12 162 (2)) (List.mem_of_getElem? (i := 1) rfl)) dX12_rule_11 ?_
  refine pureIS (As := [.long (Int32.toInt64 what), .long 0, .long 2]) (rest := []) F (c_in l (Int32.toInt64 what) 0 2) 3 gX12_rule_X12_in rfl (by decide +kernel) rfl rfl ⟨(Nat.le_of_ble_eq_true rfl), (Nat.le_of_ble_eq_true rfl)⟩ (Nat.le_of_ble_eq_true rfl) (Nat.le_of_ble_eq_true rfl) rfl hl.1 rfl (Nat.le_of_ble_eq_true rfl) dX12_rule_14 ?_
  refine lv_if_ne (tgt := 22) hx hb dX12_rule_17 (by decide) (fun c4 => ?_) (fun c4 => ?_)
  · refine lv_iload_n hx hb dX12_rule_22 rfl (lv_at hl 3 rfl) ?_
    refine lv_i2l hx hb dX12_rule_23 rfl ?_
    refine lv_iload_n hx hb dX12_rule_24 rfl (lv_at hl 2 rfl) ?_
    refine lv_iconst (v := 1) hx hb dX12_rule_25 (by decide) ?_
    refine lv_icmp_ne (tgt := 33) hx hb dX12_rule_26 (by decide) (fun c5 => ?_) (fun c5 => ?_)
    · refine lv_lconst (v := 0) hx hb dX12_rule_33 (by decide) ?_
      refine lv_iload_n hx hb dX12_rule_34 rfl (lv_at hl 2 rfl) ?_
      refine lv_if_ne (tgt := 44) hx hb dX12_rule_35 (by decide) (fun c6 => ?_) (fun c6 => ?_)
      · refine lv_iload_n hx hb dX12_rule_44 rfl (lv_at hl 2 rfl) ?_
        refine lv_iconst (v := 1) hx hb dX12_rule_45 (by decide) ?_
        refine lv_icmp_ne (tgt := 55) hx hb dX12_rule_46 (by decide) (fun _ => ?_) (fun cc0 => absurd cc0 c5)
        refine lv_ldc2 (v := 100) hx hb hown (hts (.constantLong RX12 187 (100)) (List.mem_of_getElem? (i := 4) rfl)) dX12_rule_55 ?_
        refine pureIS (As := [.long (Int32.toInt64 v), .long 0, .long 100]) (rest := []) F (c_in l (Int32.toInt64 v) 0 100) 3 gX12_rule_X12_in rfl (by decide +kernel) rfl rfl ⟨(Nat.le_of_ble_eq_true rfl), (Nat.le_of_ble_eq_true rfl)⟩ (Nat.le_of_ble_eq_true rfl) (Nat.le_of_ble_eq_true rfl) rfl hl.1 rfl (Nat.le_of_ble_eq_true rfl) dX12_rule_58 ?_
        refine lv_if_ne (tgt := 67) hx hb dX12_rule_61 (by decide) (fun c7 => ?_) (fun c7 => ?_)
        · refine lv_iload_n hx hb dX12_rule_67 rfl (lv_at hl 2 rfl) ?_
          refine lv_if_ne (tgt := 80) hx hb dX12_rule_68 (by decide) (fun _ => ?_) (fun cc0 => absurd cc0 c6)
          refine lv_iload_n hx hb dX12_rule_80 rfl (lv_at hl 2 rfl) ?_
          refine lv_iconst (v := 1) hx hb dX12_rule_81 (by decide) ?_
          refine lv_icmp_ne (tgt := 94) hx hb dX12_rule_82 (by decide) (fun _ => ?_) (fun cc0 => absurd cc0 c5)
          refine lv_aload_n hx hb dX12_rule_94 rfl (lv_at hl 0 rfl) ?_
          refine va_get (D := g.1) (ci := 12) (v := .ref (q 16)) (C := RX12) (T := TX12) (N := 66) hx hb hts hw_X12_rule_X12 hown hK hP 0 rfl rfl 16 (by decide) (hts (.fieldLink RX12 46 "OilPushModel" "leaks" "[I") (List.mem_of_getElem? (i := 7) rfl)) (fun _ h => h) rfl dX12_rule_95 ?_
          refine lv_iload_n hx hb dX12_rule_98 rfl (lv_at hl 1 rfl) ?_
          refine va_iald hx hb hK hP 3 0 rfl rfl (noCyl_in h7 c3).1 dX12_rule_99 ?_
          refine lv_istore (lv' := [(4, .int (a16 (cy.toNatClampNeg))), (0, .ref h0), (1, .int cy), (2, .int what), (3, .int v)]) hx hb dX12_rule_100 hl (by decide) rfl (fun ls hl => ?_)
          refine lv_aload_n hx hb dX12_rule_102 rfl (lv_at hl 1 rfl) ?_
          refine va_get (D := g.1) (ci := 12) (v := .ref (q 14)) (C := RX12) (T := TX12) (N := 66) hx hb hts hw_X12_rule_X12 hown hK hP 0 rfl rfl 14 (by decide) (hts (.fieldLink RX12 40 "OilPushModel" "crack" "[I") (List.mem_of_getElem? (i := 5) rfl)) (fun _ h => h) rfl dX12_rule_103 ?_
          refine lv_iload_n hx hb dX12_rule_106 rfl (lv_at hl 2 rfl) ?_
          refine lv_iload_n hx hb dX12_rule_107 rfl (lv_at hl 3 rfl) ?_
          refine lv_if_ne (tgt := 115) hx hb dX12_rule_108 (by decide) (fun _ => ?_) (fun cc0 => absurd cc0 c6)
          refine lv_aload_n hx hb dX12_rule_115 rfl (lv_at hl 1 rfl) ?_
          refine va_get (D := g.1) (ci := 12) (v := .ref (q 14)) (C := RX12) (T := TX12) (N := 66) hx hb hts hw_X12_rule_X12 hown hK hP 0 rfl rfl 14 (by decide) (hts (.fieldLink RX12 40 "OilPushModel" "crack" "[I") (List.mem_of_getElem? (i := 5) rfl)) (fun _ h => h) rfl dX12_rule_116 ?_
          refine lv_iload_n hx hb dX12_rule_119 rfl (lv_at hl 2 rfl) ?_
          refine va_iald hx hb hK hP 1 0 rfl rfl (noCyl_in h7 c3).1 dX12_rule_120 ?_
          refine va_iast hx hb hK hP hD hS 1 0 rfl rfl (noCyl_in h7 c3).1 dX12_rule_121 (fun H locs hP hD hS => ?_)
          replace hP : va_P g.1 vwCl [(h0, .inr (12, mO q i L)), ((q 14), .inl (g.2 0, 6, .inl (upd a14 (cy.toNatClampNeg) (a14 (cy.toNatClampNeg))))), ((q 15), .inl (g.2 0, 6, .inl a15)), ((q 16), .inl (g.2 0, 6, .inl a16))] H := hP
          replace hD : va_D A [(h0, .inr (12, mO q i L)), ((q 14), .inl (g.2 0, 6, .inl (upd a14 (cy.toNatClampNeg) (a14 (cy.toNatClampNeg))))), ((q 15), .inl (g.2 0, 6, .inl a15)), ((q 16), .inl (g.2 0, 6, .inl a16))] := hD
          refine lv_aload_n hx hb dX12_rule_122 rfl (lv_at hl 1 rfl) ?_
          refine va_get (D := g.1) (ci := 12) (v := .ref (q 15)) (C := RX12) (T := TX12) (N := 66) hx hb hts hw_X12_rule_X12 hown hK hP 0 rfl rfl 15 (by decide) (hts (.fieldLink RX12 43 "OilPushModel" "flow" "[I") (List.mem_of_getElem? (i := 6) rfl)) (fun _ h => h) rfl dX12_rule_123 ?_
          refine lv_iload_n hx hb dX12_rule_126 rfl (lv_at hl 2 rfl) ?_
          refine lv_iload_n hx hb dX12_rule_127 rfl (lv_at hl 3 rfl) ?_
          refine lv_iconst (v := 1) hx hb dX12_rule_128 (by decide) ?_
          refine lv_icmp_ne (tgt := 136) hx hb dX12_rule_129 (by decide) (fun _ => ?_) (fun cc0 => absurd cc0 c5)
          refine lv_aload_n hx hb dX12_rule_136 rfl (lv_at hl 1 rfl) ?_
          refine va_get (D := g.1) (ci := 12) (v := .ref (q 15)) (C := RX12) (T := TX12) (N := 66) hx hb hts hw_X12_rule_X12 hown hK hP 0 rfl rfl 15 (by decide) (hts (.fieldLink RX12 43 "OilPushModel" "flow" "[I") (List.mem_of_getElem? (i := 6) rfl)) (fun _ h => h) rfl dX12_rule_137 ?_
          refine lv_iload_n hx hb dX12_rule_140 rfl (lv_at hl 2 rfl) ?_
          refine va_iald hx hb hK hP 2 0 rfl rfl (noCyl_in h7 c3).1 dX12_rule_141 ?_
          refine va_iast hx hb hK hP hD hS 2 0 rfl rfl (noCyl_in h7 c3).1 dX12_rule_142 (fun H locs hP hD hS => ?_)
          replace hP : va_P g.1 vwCl [(h0, .inr (12, mO q i L)), ((q 14), .inl (g.2 0, 6, .inl (upd a14 (cy.toNatClampNeg) (a14 (cy.toNatClampNeg))))), ((q 15), .inl (g.2 0, 6, .inl (upd a15 (cy.toNatClampNeg) (a15 (cy.toNatClampNeg))))), ((q 16), .inl (g.2 0, 6, .inl a16))] H := hP
          replace hD : va_D A [(h0, .inr (12, mO q i L)), ((q 14), .inl (g.2 0, 6, .inl (upd a14 (cy.toNatClampNeg) (a14 (cy.toNatClampNeg))))), ((q 15), .inl (g.2 0, 6, .inl (upd a15 (cy.toNatClampNeg) (a15 (cy.toNatClampNeg))))), ((q 16), .inl (g.2 0, 6, .inl a16))] := hD
          refine lv_aload_n hx hb dX12_rule_143 rfl (lv_at hl 1 rfl) ?_
          refine va_get (D := g.1) (ci := 12) (v := .ref (q 16)) (C := RX12) (T := TX12) (N := 66) hx hb hts hw_X12_rule_X12 hown hK hP 0 rfl rfl 16 (by decide) (hts (.fieldLink RX12 46 "OilPushModel" "leaks" "[I") (List.mem_of_getElem? (i := 7) rfl)) (fun _ h => h) rfl dX12_rule_144 ?_
          refine lv_iload_n hx hb dX12_rule_147 rfl (lv_at hl 2 rfl) ?_
          refine lv_iload_n hx hb dX12_rule_148 rfl (lv_at hl 3 rfl) ?_
          refine lv_iconst (v := 2) hx hb dX12_rule_149 (by decide) ?_
          refine lv_icmp_ne (tgt := 157) hx hb dX12_rule_150 (by decide) (fun c8 => ?_) (fun c8 => ?_)
          · refine lv_aload_n hx hb dX12_rule_157 rfl (lv_at hl 1 rfl) ?_
            refine va_get (D := g.1) (ci := 12) (v := .ref (q 16)) (C := RX12) (T := TX12) (N := 66) hx hb hts hw_X12_rule_X12 hown hK hP 0 rfl rfl 16 (by decide) (hts (.fieldLink RX12 46 "OilPushModel" "leaks" "[I") (List.mem_of_getElem? (i := 7) rfl)) (fun _ h => h) rfl dX12_rule_158 ?_
            refine lv_iload_n hx hb dX12_rule_161 rfl (lv_at hl 2 rfl) ?_
            refine va_iald hx hb hK hP 3 0 rfl rfl (noCyl_in h7 c3).1 dX12_rule_162 ?_
            refine va_iast hx hb hK hP hD hS 3 0 rfl rfl (noCyl_in h7 c3).1 dX12_rule_163 (fun H locs hP hD hS => ?_)
            replace hP : va_P g.1 vwCl [(h0, .inr (12, mO q i L)), ((q 14), .inl (g.2 0, 6, .inl (upd a14 (cy.toNatClampNeg) (a14 (cy.toNatClampNeg))))), ((q 15), .inl (g.2 0, 6, .inl (upd a15 (cy.toNatClampNeg) (a15 (cy.toNatClampNeg))))), ((q 16), .inl (g.2 0, 6, .inl (upd a16 (cy.toNatClampNeg) (a16 (cy.toNatClampNeg)))))] H := hP
            replace hD : va_D A [(h0, .inr (12, mO q i L)), ((q 14), .inl (g.2 0, 6, .inl (upd a14 (cy.toNatClampNeg) (a14 (cy.toNatClampNeg))))), ((q 15), .inl (g.2 0, 6, .inl (upd a15 (cy.toNatClampNeg) (a15 (cy.toNatClampNeg))))), ((q 16), .inl (g.2 0, 6, .inl (upd a16 (cy.toNatClampNeg) (a16 (cy.toNatClampNeg)))))] := hD
            refine lv_iload hx hb dX12_rule_164 (lv_at hl 0 rfl) ?_
            exact retI C hS ((upd a14 (cy.toNatClampNeg) (a14 (cy.toNatClampNeg))), (upd a15 (cy.toNatClampNeg) (a15 (cy.toNatClampNeg))), (upd a16 (cy.toNatClampNeg) (a16 (cy.toNatClampNeg)))) ⟨(FB_lk (FB_fl hF (hF _).1) (hF _).2), (absurd (kd_012 (show ¬ r_c_within what 0 2 = 0 from fun e9 => c4 ((in_within what 0 2).trans e9)) c6 c5) c8), (absurd (kd_012 (show ¬ r_c_within what 0 2 = 0 from fun e9 => c4 ((in_within what 0 2).trans e9)) c6 c5) c8), (absurd (kd_012 (show ¬ r_c_within what 0 2 = 0 from fun e9 => c4 ((in_within what 0 2).trans e9)) c6 c5) c8), (absurd (kd_012 (show ¬ r_c_within what 0 2 = 0 from fun e9 => c4 ((in_within what 0 2).trans e9)) c6 c5) c8)⟩ hP hD (Nat.le_of_ble_eq_true rfl) (Nat.le_of_ble_eq_true rfl) dX12_rule_166
          refine lv_iload_n hx hb dX12_rule_153 rfl (lv_at hl 4 rfl) ?_
          refine lv_goto (tgt := 163) hx hb dX12_rule_154 (by decide) ?_
          refine va_iast hx hb hK hP hD hS 3 0 rfl rfl (noCyl_in h7 c3).1 dX12_rule_163 (fun H locs hP hD hS => ?_)
          replace hP : va_P g.1 vwCl [(h0, .inr (12, mO q i L)), ((q 14), .inl (g.2 0, 6, .inl (upd a14 (cy.toNatClampNeg) (a14 (cy.toNatClampNeg))))), ((q 15), .inl (g.2 0, 6, .inl (upd a15 (cy.toNatClampNeg) (a15 (cy.toNatClampNeg))))), ((q 16), .inl (g.2 0, 6, .inl (upd a16 (cy.toNatClampNeg) v)))] H := hP
          replace hD : va_D A [(h0, .inr (12, mO q i L)), ((q 14), .inl (g.2 0, 6, .inl (upd a14 (cy.toNatClampNeg) (a14 (cy.toNatClampNeg))))), ((q 15), .inl (g.2 0, 6, .inl (upd a15 (cy.toNatClampNeg) (a15 (cy.toNatClampNeg))))), ((q 16), .inl (g.2 0, 6, .inl (upd a16 (cy.toNatClampNeg) v)))] := hD
          refine lv_iload hx hb dX12_rule_164 (lv_at hl 0 rfl) ?_
          exact retI C hS ((upd a14 (cy.toNatClampNeg) (a14 (cy.toNatClampNeg))), (upd a15 (cy.toNatClampNeg) (a15 (cy.toNatClampNeg))), (upd a16 (cy.toNatClampNeg) v)) ⟨(FB_lk (FB_fl hF (hF _).1) (fl_in c7 (by decide) (by decide)).1), (by simp only [rm_r, rm_k, ru_c, ru_f, if_pos h7, if_pos hF, if_neg (nc_n h7 c3), if_neg (show ¬ r_c_within what 0 2 = 0 from fun e9 => c4 ((in_within what 0 2).trans e9)), if_neg c5, if_neg c6, if_neg (show ¬ r_c_within v 0 100 = 0 from fun e9 => c7 ((in_within v 0 100).trans e9)), if_pos c8, upd_self]), (by simp only [rm_r, rm_k, ru_c, ru_f, if_pos h7, if_pos hF, if_neg (nc_n h7 c3), if_neg (show ¬ r_c_within what 0 2 = 0 from fun e9 => c4 ((in_within what 0 2).trans e9)), if_neg c5, if_neg c6, if_neg (show ¬ r_c_within v 0 100 = 0 from fun e9 => c7 ((in_within v 0 100).trans e9)), if_pos c8, upd_self]), (by simp only [rm_r, rm_k, ru_c, ru_f, if_pos h7, if_pos hF, if_neg (nc_n h7 c3), if_neg (show ¬ r_c_within what 0 2 = 0 from fun e9 => c4 ((in_within what 0 2).trans e9)), if_neg c5, if_neg c6, if_neg (show ¬ r_c_within v 0 100 = 0 from fun e9 => c7 ((in_within v 0 100).trans e9)), if_pos c8, upd_self]), (by simp only [rm_r, rm_k, ru_c, ru_f, if_pos h7, if_pos hF, if_neg (nc_n h7 c3), if_neg (show ¬ r_c_within what 0 2 = 0 from fun e9 => c4 ((in_within what 0 2).trans e9)), if_neg c5, if_neg c6, if_neg (show ¬ r_c_within v 0 100 = 0 from fun e9 => c7 ((in_within v 0 100).trans e9)), if_pos c8, upd_self])⟩ hP hD (Nat.le_of_ble_eq_true rfl) (Nat.le_of_ble_eq_true rfl) dX12_rule_166
        refine lv_bipush (v := -2) hx hb dX12_rule_64 (by decide) ?_
        exact retI C hS (a14, a15, a16) ⟨hF, (by simp only [rm_r, rm_k, ru_c, ru_f, if_pos h7, if_pos hF, if_neg (nc_n h7 c3), if_neg (show ¬ r_c_within what 0 2 = 0 from fun e9 => c4 ((in_within what 0 2).trans e9)), if_neg c5, if_neg c6, if_pos (show r_c_within v 0 100 = 0 from (in_within v 0 100).symm.trans c7), upd_self]), (by simp only [rm_r, rm_k, ru_c, ru_f, if_pos h7, if_pos hF, if_neg (nc_n h7 c3), if_neg (show ¬ r_c_within what 0 2 = 0 from fun e9 => c4 ((in_within what 0 2).trans e9)), if_neg c5, if_neg c6, if_pos (show r_c_within v 0 100 = 0 from (in_within v 0 100).symm.trans c7), upd_self]), (by simp only [rm_r, rm_k, ru_c, ru_f, if_pos h7, if_pos hF, if_neg (nc_n h7 c3), if_neg (show ¬ r_c_within what 0 2 = 0 from fun e9 => c4 ((in_within what 0 2).trans e9)), if_neg c5, if_neg c6, if_pos (show r_c_within v 0 100 = 0 from (in_within v 0 100).symm.trans c7), upd_self]), (by simp only [rm_r, rm_k, ru_c, ru_f, if_pos h7, if_pos hF, if_neg (nc_n h7 c3), if_neg (show ¬ r_c_within what 0 2 = 0 from fun e9 => c4 ((in_within what 0 2).trans e9)), if_neg c5, if_neg c6, if_pos (show r_c_within v 0 100 = 0 from (in_within v 0 100).symm.trans c7), upd_self])⟩ hP hD (Nat.le_of_ble_eq_true rfl) (Nat.le_of_ble_eq_true rfl) dX12_rule_66
      refine lv_ldc2 (v := 500) hx hb hown (hts (.constantLong RX12 192 (500)) (List.mem_of_getElem? (i := 2) rfl)) dX12_rule_38 ?_
      refine lv_goto (tgt := 58) hx hb dX12_rule_41 (by decide) ?_
      refine pureIS (As := [.long (Int32.toInt64 v), .long 0, .long 500]) (rest := []) F (c_in l (Int32.toInt64 v) 0 500) 3 gX12_rule_X12_in rfl (by decide +kernel) rfl rfl ⟨(Nat.le_of_ble_eq_true rfl), (Nat.le_of_ble_eq_true rfl)⟩ (Nat.le_of_ble_eq_true rfl) (Nat.le_of_ble_eq_true rfl) rfl hl.1 rfl (Nat.le_of_ble_eq_true rfl) dX12_rule_58 ?_
      refine lv_if_ne (tgt := 67) hx hb dX12_rule_61 (by decide) (fun c9 => ?_) (fun c9 => ?_)
      · refine lv_iload_n hx hb dX12_rule_67 rfl (lv_at hl 2 rfl) ?_
        refine lv_if_ne (tgt := 80) hx hb dX12_rule_68 (by decide) (fun cc0 => absurd c6 cc0) (fun _ => ?_)
        refine lv_aload_n hx hb dX12_rule_71 rfl (lv_at hl 0 rfl) ?_
        refine va_get (D := g.1) (ci := 12) (v := .ref (q 14)) (C := RX12) (T := TX12) (N := 66) hx hb hts hw_X12_rule_X12 hown hK hP 0 rfl rfl 14 (by decide) (hts (.fieldLink RX12 40 "OilPushModel" "crack" "[I") (List.mem_of_getElem? (i := 5) rfl)) (fun _ h => h) rfl dX12_rule_72 ?_
        refine lv_iload_n hx hb dX12_rule_75 rfl (lv_at hl 1 rfl) ?_
        refine va_iald hx hb hK hP 1 0 rfl rfl (noCyl_in h7 c3).1 dX12_rule_76 ?_
        refine lv_goto (tgt := 100) hx hb dX12_rule_77 (by decide) ?_
        refine lv_istore (lv' := [(4, .int (a14 (cy.toNatClampNeg))), (0, .ref h0), (1, .int cy), (2, .int what), (3, .int v)]) hx hb dX12_rule_100 hl (by decide) rfl (fun ls hl => ?_)
        refine lv_aload_n hx hb dX12_rule_102 rfl (lv_at hl 1 rfl) ?_
        refine va_get (D := g.1) (ci := 12) (v := .ref (q 14)) (C := RX12) (T := TX12) (N := 66) hx hb hts hw_X12_rule_X12 hown hK hP 0 rfl rfl 14 (by decide) (hts (.fieldLink RX12 40 "OilPushModel" "crack" "[I") (List.mem_of_getElem? (i := 5) rfl)) (fun _ h => h) rfl dX12_rule_103 ?_
        refine lv_iload_n hx hb dX12_rule_106 rfl (lv_at hl 2 rfl) ?_
        refine lv_iload_n hx hb dX12_rule_107 rfl (lv_at hl 3 rfl) ?_
        refine lv_if_ne (tgt := 115) hx hb dX12_rule_108 (by decide) (fun cc0 => absurd c6 cc0) (fun _ => ?_)
        refine lv_iload_n hx hb dX12_rule_111 rfl (lv_at hl 4 rfl) ?_
        refine lv_goto (tgt := 121) hx hb dX12_rule_112 (by decide) ?_
        refine va_iast hx hb hK hP hD hS 1 0 rfl rfl (noCyl_in h7 c3).1 dX12_rule_121 (fun H locs hP hD hS => ?_)
        replace hP : va_P g.1 vwCl [(h0, .inr (12, mO q i L)), ((q 14), .inl (g.2 0, 6, .inl (upd a14 (cy.toNatClampNeg) v))), ((q 15), .inl (g.2 0, 6, .inl a15)), ((q 16), .inl (g.2 0, 6, .inl a16))] H := hP
        replace hD : va_D A [(h0, .inr (12, mO q i L)), ((q 14), .inl (g.2 0, 6, .inl (upd a14 (cy.toNatClampNeg) v))), ((q 15), .inl (g.2 0, 6, .inl a15)), ((q 16), .inl (g.2 0, 6, .inl a16))] := hD
        refine lv_aload_n hx hb dX12_rule_122 rfl (lv_at hl 1 rfl) ?_
        refine va_get (D := g.1) (ci := 12) (v := .ref (q 15)) (C := RX12) (T := TX12) (N := 66) hx hb hts hw_X12_rule_X12 hown hK hP 0 rfl rfl 15 (by decide) (hts (.fieldLink RX12 43 "OilPushModel" "flow" "[I") (List.mem_of_getElem? (i := 6) rfl)) (fun _ h => h) rfl dX12_rule_123 ?_
        refine lv_iload_n hx hb dX12_rule_126 rfl (lv_at hl 2 rfl) ?_
        refine lv_iload_n hx hb dX12_rule_127 rfl (lv_at hl 3 rfl) ?_
        refine lv_iconst (v := 1) hx hb dX12_rule_128 (by decide) ?_
        refine lv_icmp_ne (tgt := 136) hx hb dX12_rule_129 (by decide) (fun _ => ?_) (fun cc0 => absurd cc0 c5)
        refine lv_aload_n hx hb dX12_rule_136 rfl (lv_at hl 1 rfl) ?_
        refine va_get (D := g.1) (ci := 12) (v := .ref (q 15)) (C := RX12) (T := TX12) (N := 66) hx hb hts hw_X12_rule_X12 hown hK hP 0 rfl rfl 15 (by decide) (hts (.fieldLink RX12 43 "OilPushModel" "flow" "[I") (List.mem_of_getElem? (i := 6) rfl)) (fun _ h => h) rfl dX12_rule_137 ?_
        refine lv_iload_n hx hb dX12_rule_140 rfl (lv_at hl 2 rfl) ?_
        refine va_iald hx hb hK hP 2 0 rfl rfl (noCyl_in h7 c3).1 dX12_rule_141 ?_
        refine va_iast hx hb hK hP hD hS 2 0 rfl rfl (noCyl_in h7 c3).1 dX12_rule_142 (fun H locs hP hD hS => ?_)
        replace hP : va_P g.1 vwCl [(h0, .inr (12, mO q i L)), ((q 14), .inl (g.2 0, 6, .inl (upd a14 (cy.toNatClampNeg) v))), ((q 15), .inl (g.2 0, 6, .inl (upd a15 (cy.toNatClampNeg) (a15 (cy.toNatClampNeg))))), ((q 16), .inl (g.2 0, 6, .inl a16))] H := hP
        replace hD : va_D A [(h0, .inr (12, mO q i L)), ((q 14), .inl (g.2 0, 6, .inl (upd a14 (cy.toNatClampNeg) v))), ((q 15), .inl (g.2 0, 6, .inl (upd a15 (cy.toNatClampNeg) (a15 (cy.toNatClampNeg))))), ((q 16), .inl (g.2 0, 6, .inl a16))] := hD
        refine lv_aload_n hx hb dX12_rule_143 rfl (lv_at hl 1 rfl) ?_
        refine va_get (D := g.1) (ci := 12) (v := .ref (q 16)) (C := RX12) (T := TX12) (N := 66) hx hb hts hw_X12_rule_X12 hown hK hP 0 rfl rfl 16 (by decide) (hts (.fieldLink RX12 46 "OilPushModel" "leaks" "[I") (List.mem_of_getElem? (i := 7) rfl)) (fun _ h => h) rfl dX12_rule_144 ?_
        refine lv_iload_n hx hb dX12_rule_147 rfl (lv_at hl 2 rfl) ?_
        refine lv_iload_n hx hb dX12_rule_148 rfl (lv_at hl 3 rfl) ?_
        refine lv_iconst (v := 2) hx hb dX12_rule_149 (by decide) ?_
        refine lv_icmp_ne (tgt := 157) hx hb dX12_rule_150 (by decide) (fun c10 => ?_) (fun c10 => ?_)
        · refine lv_aload_n hx hb dX12_rule_157 rfl (lv_at hl 1 rfl) ?_
          refine va_get (D := g.1) (ci := 12) (v := .ref (q 16)) (C := RX12) (T := TX12) (N := 66) hx hb hts hw_X12_rule_X12 hown hK hP 0 rfl rfl 16 (by decide) (hts (.fieldLink RX12 46 "OilPushModel" "leaks" "[I") (List.mem_of_getElem? (i := 7) rfl)) (fun _ h => h) rfl dX12_rule_158 ?_
          refine lv_iload_n hx hb dX12_rule_161 rfl (lv_at hl 2 rfl) ?_
          refine va_iald hx hb hK hP 3 0 rfl rfl (noCyl_in h7 c3).1 dX12_rule_162 ?_
          refine va_iast hx hb hK hP hD hS 3 0 rfl rfl (noCyl_in h7 c3).1 dX12_rule_163 (fun H locs hP hD hS => ?_)
          replace hP : va_P g.1 vwCl [(h0, .inr (12, mO q i L)), ((q 14), .inl (g.2 0, 6, .inl (upd a14 (cy.toNatClampNeg) v))), ((q 15), .inl (g.2 0, 6, .inl (upd a15 (cy.toNatClampNeg) (a15 (cy.toNatClampNeg))))), ((q 16), .inl (g.2 0, 6, .inl (upd a16 (cy.toNatClampNeg) (a16 (cy.toNatClampNeg)))))] H := hP
          replace hD : va_D A [(h0, .inr (12, mO q i L)), ((q 14), .inl (g.2 0, 6, .inl (upd a14 (cy.toNatClampNeg) v))), ((q 15), .inl (g.2 0, 6, .inl (upd a15 (cy.toNatClampNeg) (a15 (cy.toNatClampNeg))))), ((q 16), .inl (g.2 0, 6, .inl (upd a16 (cy.toNatClampNeg) (a16 (cy.toNatClampNeg)))))] := hD
          refine lv_iload hx hb dX12_rule_164 (lv_at hl 0 rfl) ?_
          exact retI C hS ((upd a14 (cy.toNatClampNeg) v), (upd a15 (cy.toNatClampNeg) (a15 (cy.toNatClampNeg))), (upd a16 (cy.toNatClampNeg) (a16 (cy.toNatClampNeg)))) ⟨(FB_lk (FB_fl hF (hF _).1) (hF _).2), (by simp only [rm_r, rm_k, ru_c, ru_f, if_pos h7, if_pos hF, if_neg (nc_n h7 c3), if_neg (show ¬ r_c_within what 0 2 = 0 from fun e9 => c4 ((in_within what 0 2).trans e9)), if_neg c5, if_pos c6, if_neg (ne01 c6), if_neg (show ¬ r_c_within v 0 500 = 0 from fun e9 => c9 ((in_within v 0 500).trans e9)), if_neg c10, upd_self]), (by simp only [rm_r, rm_k, ru_c, ru_f, if_pos h7, if_pos hF, if_neg (nc_n h7 c3), if_neg (show ¬ r_c_within what 0 2 = 0 from fun e9 => c4 ((in_within what 0 2).trans e9)), if_neg c5, if_pos c6, if_neg (ne01 c6), if_neg (show ¬ r_c_within v 0 500 = 0 from fun e9 => c9 ((in_within v 0 500).trans e9)), if_neg c10, upd_self]), (by simp only [rm_r, rm_k, ru_c, ru_f, if_pos h7, if_pos hF, if_neg (nc_n h7 c3), if_neg (show ¬ r_c_within what 0 2 = 0 from fun e9 => c4 ((in_within what 0 2).trans e9)), if_neg c5, if_pos c6, if_neg (ne01 c6), if_neg (show ¬ r_c_within v 0 500 = 0 from fun e9 => c9 ((in_within v 0 500).trans e9)), if_neg c10, upd_self]), (by simp only [rm_r, rm_k, ru_c, ru_f, if_pos h7, if_pos hF, if_neg (nc_n h7 c3), if_neg (show ¬ r_c_within what 0 2 = 0 from fun e9 => c4 ((in_within what 0 2).trans e9)), if_neg c5, if_pos c6, if_neg (ne01 c6), if_neg (show ¬ r_c_within v 0 500 = 0 from fun e9 => c9 ((in_within v 0 500).trans e9)), if_neg c10, upd_self])⟩ hP hD (Nat.le_of_ble_eq_true rfl) (Nat.le_of_ble_eq_true rfl) dX12_rule_166
        refine lv_iload_n hx hb dX12_rule_153 rfl (lv_at hl 4 rfl) ?_
        refine lv_goto (tgt := 163) hx hb dX12_rule_154 (by decide) ?_
        refine va_iast hx hb hK hP hD hS 3 0 rfl rfl (noCyl_in h7 c3).1 dX12_rule_163 (fun H locs hP hD hS => ?_)
        replace hP : va_P g.1 vwCl [(h0, .inr (12, mO q i L)), ((q 14), .inl (g.2 0, 6, .inl (upd a14 (cy.toNatClampNeg) v))), ((q 15), .inl (g.2 0, 6, .inl (upd a15 (cy.toNatClampNeg) (a15 (cy.toNatClampNeg))))), ((q 16), .inl (g.2 0, 6, .inl (upd a16 (cy.toNatClampNeg) v)))] H := hP
        replace hD : va_D A [(h0, .inr (12, mO q i L)), ((q 14), .inl (g.2 0, 6, .inl (upd a14 (cy.toNatClampNeg) v))), ((q 15), .inl (g.2 0, 6, .inl (upd a15 (cy.toNatClampNeg) (a15 (cy.toNatClampNeg))))), ((q 16), .inl (g.2 0, 6, .inl (upd a16 (cy.toNatClampNeg) v)))] := hD
        refine lv_iload hx hb dX12_rule_164 (lv_at hl 0 rfl) ?_
        exact retI C hS ((upd a14 (cy.toNatClampNeg) v), (upd a15 (cy.toNatClampNeg) (a15 (cy.toNatClampNeg))), (upd a16 (cy.toNatClampNeg) v)) ⟨(FB_lk (FB_fl hF (hF _).1) (fl_in c9 (by decide) (by decide)).1), (absurd (c6.symm.trans c10) (by decide)), (absurd (c6.symm.trans c10) (by decide)), (absurd (c6.symm.trans c10) (by decide)), (absurd (c6.symm.trans c10) (by decide))⟩ hP hD (Nat.le_of_ble_eq_true rfl) (Nat.le_of_ble_eq_true rfl) dX12_rule_166
      refine lv_bipush (v := -2) hx hb dX12_rule_64 (by decide) ?_
      exact retI C hS (a14, a15, a16) ⟨hF, (by simp only [rm_r, rm_k, ru_c, ru_f, if_pos h7, if_pos hF, if_neg (nc_n h7 c3), if_neg (show ¬ r_c_within what 0 2 = 0 from fun e9 => c4 ((in_within what 0 2).trans e9)), if_neg c5, if_pos c6, if_neg (ne01 c6), if_pos (show r_c_within v 0 500 = 0 from (in_within v 0 500).symm.trans c9), upd_self]), (by simp only [rm_r, rm_k, ru_c, ru_f, if_pos h7, if_pos hF, if_neg (nc_n h7 c3), if_neg (show ¬ r_c_within what 0 2 = 0 from fun e9 => c4 ((in_within what 0 2).trans e9)), if_neg c5, if_pos c6, if_neg (ne01 c6), if_pos (show r_c_within v 0 500 = 0 from (in_within v 0 500).symm.trans c9), upd_self]), (by simp only [rm_r, rm_k, ru_c, ru_f, if_pos h7, if_pos hF, if_neg (nc_n h7 c3), if_neg (show ¬ r_c_within what 0 2 = 0 from fun e9 => c4 ((in_within what 0 2).trans e9)), if_neg c5, if_pos c6, if_neg (ne01 c6), if_pos (show r_c_within v 0 500 = 0 from (in_within v 0 500).symm.trans c9), upd_self]), (by simp only [rm_r, rm_k, ru_c, ru_f, if_pos h7, if_pos hF, if_neg (nc_n h7 c3), if_neg (show ¬ r_c_within what 0 2 = 0 from fun e9 => c4 ((in_within what 0 2).trans e9)), if_neg c5, if_pos c6, if_neg (ne01 c6), if_pos (show r_c_within v 0 500 = 0 from (in_within v 0 500).symm.trans c9), upd_self])⟩ hP hD (Nat.le_of_ble_eq_true rfl) (Nat.le_of_ble_eq_true rfl) dX12_rule_66
    refine lv_lconst (v := 1) hx hb dX12_rule_29 (by decide) ?_
    refine lv_goto (tgt := 34) hx hb dX12_rule_30 (by decide) ?_
    refine lv_iload_n hx hb dX12_rule_34 rfl (lv_at hl 2 rfl) ?_
    refine lv_if_ne (tgt := 44) hx hb dX12_rule_35 (by decide) (fun c11 => ?_) (fun c11 => ?_)
    · refine lv_iload_n hx hb dX12_rule_44 rfl (lv_at hl 2 rfl) ?_
      refine lv_iconst (v := 1) hx hb dX12_rule_45 (by decide) ?_
      refine lv_icmp_ne (tgt := 55) hx hb dX12_rule_46 (by decide) (fun cc0 => absurd c5 cc0) (fun _ => ?_)
      refine lv_ldc2 (v := 1000) hx hb hown (hts (.constantLong RX12 182 (1000)) (List.mem_of_getElem? (i := 3) rfl)) dX12_rule_49 ?_
      refine lv_goto (tgt := 58) hx hb dX12_rule_52 (by decide) ?_
      refine pureIS (As := [.long (Int32.toInt64 v), .long 1, .long 1000]) (rest := []) F (c_in l (Int32.toInt64 v) 1 1000) 3 gX12_rule_X12_in rfl (by decide +kernel) rfl rfl ⟨(Nat.le_of_ble_eq_true rfl), (Nat.le_of_ble_eq_true rfl)⟩ (Nat.le_of_ble_eq_true rfl) (Nat.le_of_ble_eq_true rfl) rfl hl.1 rfl (Nat.le_of_ble_eq_true rfl) dX12_rule_58 ?_
      refine lv_if_ne (tgt := 67) hx hb dX12_rule_61 (by decide) (fun c12 => ?_) (fun c12 => ?_)
      · refine lv_iload_n hx hb dX12_rule_67 rfl (lv_at hl 2 rfl) ?_
        refine lv_if_ne (tgt := 80) hx hb dX12_rule_68 (by decide) (fun _ => ?_) (fun cc0 => absurd cc0 c11)
        refine lv_iload_n hx hb dX12_rule_80 rfl (lv_at hl 2 rfl) ?_
        refine lv_iconst (v := 1) hx hb dX12_rule_81 (by decide) ?_
        refine lv_icmp_ne (tgt := 94) hx hb dX12_rule_82 (by decide) (fun cc0 => absurd c5 cc0) (fun _ => ?_)
        refine lv_aload_n hx hb dX12_rule_85 rfl (lv_at hl 0 rfl) ?_
        refine va_get (D := g.1) (ci := 12) (v := .ref (q 15)) (C := RX12) (T := TX12) (N := 66) hx hb hts hw_X12_rule_X12 hown hK hP 0 rfl rfl 15 (by decide) (hts (.fieldLink RX12 43 "OilPushModel" "flow" "[I") (List.mem_of_getElem? (i := 6) rfl)) (fun _ h => h) rfl dX12_rule_86 ?_
        refine lv_iload_n hx hb dX12_rule_89 rfl (lv_at hl 1 rfl) ?_
        refine va_iald hx hb hK hP 2 0 rfl rfl (noCyl_in h7 c3).1 dX12_rule_90 ?_
        refine lv_goto (tgt := 100) hx hb dX12_rule_91 (by decide) ?_
        refine lv_istore (lv' := [(4, .int (a15 (cy.toNatClampNeg))), (0, .ref h0), (1, .int cy), (2, .int what), (3, .int v)]) hx hb dX12_rule_100 hl (by decide) rfl (fun ls hl => ?_)
        refine lv_aload_n hx hb dX12_rule_102 rfl (lv_at hl 1 rfl) ?_
        refine va_get (D := g.1) (ci := 12) (v := .ref (q 14)) (C := RX12) (T := TX12) (N := 66) hx hb hts hw_X12_rule_X12 hown hK hP 0 rfl rfl 14 (by decide) (hts (.fieldLink RX12 40 "OilPushModel" "crack" "[I") (List.mem_of_getElem? (i := 5) rfl)) (fun _ h => h) rfl dX12_rule_103 ?_
        refine lv_iload_n hx hb dX12_rule_106 rfl (lv_at hl 2 rfl) ?_
        refine lv_iload_n hx hb dX12_rule_107 rfl (lv_at hl 3 rfl) ?_
        refine lv_if_ne (tgt := 115) hx hb dX12_rule_108 (by decide) (fun _ => ?_) (fun cc0 => absurd cc0 c11)
        refine lv_aload_n hx hb dX12_rule_115 rfl (lv_at hl 1 rfl) ?_
        refine va_get (D := g.1) (ci := 12) (v := .ref (q 14)) (C := RX12) (T := TX12) (N := 66) hx hb hts hw_X12_rule_X12 hown hK hP 0 rfl rfl 14 (by decide) (hts (.fieldLink RX12 40 "OilPushModel" "crack" "[I") (List.mem_of_getElem? (i := 5) rfl)) (fun _ h => h) rfl dX12_rule_116 ?_
        refine lv_iload_n hx hb dX12_rule_119 rfl (lv_at hl 2 rfl) ?_
        refine va_iald hx hb hK hP 1 0 rfl rfl (noCyl_in h7 c3).1 dX12_rule_120 ?_
        refine va_iast hx hb hK hP hD hS 1 0 rfl rfl (noCyl_in h7 c3).1 dX12_rule_121 (fun H locs hP hD hS => ?_)
        replace hP : va_P g.1 vwCl [(h0, .inr (12, mO q i L)), ((q 14), .inl (g.2 0, 6, .inl (upd a14 (cy.toNatClampNeg) (a14 (cy.toNatClampNeg))))), ((q 15), .inl (g.2 0, 6, .inl a15)), ((q 16), .inl (g.2 0, 6, .inl a16))] H := hP
        replace hD : va_D A [(h0, .inr (12, mO q i L)), ((q 14), .inl (g.2 0, 6, .inl (upd a14 (cy.toNatClampNeg) (a14 (cy.toNatClampNeg))))), ((q 15), .inl (g.2 0, 6, .inl a15)), ((q 16), .inl (g.2 0, 6, .inl a16))] := hD
        refine lv_aload_n hx hb dX12_rule_122 rfl (lv_at hl 1 rfl) ?_
        refine va_get (D := g.1) (ci := 12) (v := .ref (q 15)) (C := RX12) (T := TX12) (N := 66) hx hb hts hw_X12_rule_X12 hown hK hP 0 rfl rfl 15 (by decide) (hts (.fieldLink RX12 43 "OilPushModel" "flow" "[I") (List.mem_of_getElem? (i := 6) rfl)) (fun _ h => h) rfl dX12_rule_123 ?_
        refine lv_iload_n hx hb dX12_rule_126 rfl (lv_at hl 2 rfl) ?_
        refine lv_iload_n hx hb dX12_rule_127 rfl (lv_at hl 3 rfl) ?_
        refine lv_iconst (v := 1) hx hb dX12_rule_128 (by decide) ?_
        refine lv_icmp_ne (tgt := 136) hx hb dX12_rule_129 (by decide) (fun cc0 => absurd c5 cc0) (fun _ => ?_)
        refine lv_iload_n hx hb dX12_rule_132 rfl (lv_at hl 4 rfl) ?_
        refine lv_goto (tgt := 142) hx hb dX12_rule_133 (by decide) ?_
        refine va_iast hx hb hK hP hD hS 2 0 rfl rfl (noCyl_in h7 c3).1 dX12_rule_142 (fun H locs hP hD hS => ?_)
        replace hP : va_P g.1 vwCl [(h0, .inr (12, mO q i L)), ((q 14), .inl (g.2 0, 6, .inl (upd a14 (cy.toNatClampNeg) (a14 (cy.toNatClampNeg))))), ((q 15), .inl (g.2 0, 6, .inl (upd a15 (cy.toNatClampNeg) v))), ((q 16), .inl (g.2 0, 6, .inl a16))] H := hP
        replace hD : va_D A [(h0, .inr (12, mO q i L)), ((q 14), .inl (g.2 0, 6, .inl (upd a14 (cy.toNatClampNeg) (a14 (cy.toNatClampNeg))))), ((q 15), .inl (g.2 0, 6, .inl (upd a15 (cy.toNatClampNeg) v))), ((q 16), .inl (g.2 0, 6, .inl a16))] := hD
        refine lv_aload_n hx hb dX12_rule_143 rfl (lv_at hl 1 rfl) ?_
        refine va_get (D := g.1) (ci := 12) (v := .ref (q 16)) (C := RX12) (T := TX12) (N := 66) hx hb hts hw_X12_rule_X12 hown hK hP 0 rfl rfl 16 (by decide) (hts (.fieldLink RX12 46 "OilPushModel" "leaks" "[I") (List.mem_of_getElem? (i := 7) rfl)) (fun _ h => h) rfl dX12_rule_144 ?_
        refine lv_iload_n hx hb dX12_rule_147 rfl (lv_at hl 2 rfl) ?_
        refine lv_iload_n hx hb dX12_rule_148 rfl (lv_at hl 3 rfl) ?_
        refine lv_iconst (v := 2) hx hb dX12_rule_149 (by decide) ?_
        refine lv_icmp_ne (tgt := 157) hx hb dX12_rule_150 (by decide) (fun c13 => ?_) (fun c13 => ?_)
        · refine lv_aload_n hx hb dX12_rule_157 rfl (lv_at hl 1 rfl) ?_
          refine va_get (D := g.1) (ci := 12) (v := .ref (q 16)) (C := RX12) (T := TX12) (N := 66) hx hb hts hw_X12_rule_X12 hown hK hP 0 rfl rfl 16 (by decide) (hts (.fieldLink RX12 46 "OilPushModel" "leaks" "[I") (List.mem_of_getElem? (i := 7) rfl)) (fun _ h => h) rfl dX12_rule_158 ?_
          refine lv_iload_n hx hb dX12_rule_161 rfl (lv_at hl 2 rfl) ?_
          refine va_iald hx hb hK hP 3 0 rfl rfl (noCyl_in h7 c3).1 dX12_rule_162 ?_
          refine va_iast hx hb hK hP hD hS 3 0 rfl rfl (noCyl_in h7 c3).1 dX12_rule_163 (fun H locs hP hD hS => ?_)
          replace hP : va_P g.1 vwCl [(h0, .inr (12, mO q i L)), ((q 14), .inl (g.2 0, 6, .inl (upd a14 (cy.toNatClampNeg) (a14 (cy.toNatClampNeg))))), ((q 15), .inl (g.2 0, 6, .inl (upd a15 (cy.toNatClampNeg) v))), ((q 16), .inl (g.2 0, 6, .inl (upd a16 (cy.toNatClampNeg) (a16 (cy.toNatClampNeg)))))] H := hP
          replace hD : va_D A [(h0, .inr (12, mO q i L)), ((q 14), .inl (g.2 0, 6, .inl (upd a14 (cy.toNatClampNeg) (a14 (cy.toNatClampNeg))))), ((q 15), .inl (g.2 0, 6, .inl (upd a15 (cy.toNatClampNeg) v))), ((q 16), .inl (g.2 0, 6, .inl (upd a16 (cy.toNatClampNeg) (a16 (cy.toNatClampNeg)))))] := hD
          refine lv_iload hx hb dX12_rule_164 (lv_at hl 0 rfl) ?_
          exact retI C hS ((upd a14 (cy.toNatClampNeg) (a14 (cy.toNatClampNeg))), (upd a15 (cy.toNatClampNeg) v), (upd a16 (cy.toNatClampNeg) (a16 (cy.toNatClampNeg)))) ⟨(FB_lk (FB_fl hF (fl_in c12 (by decide) (by decide))) (hF _).2), (by simp only [rm_r, rm_k, ru_c, ru_f, if_pos h7, if_pos hF, if_neg (nc_n h7 c3), if_neg (show ¬ r_c_within what 0 2 = 0 from fun e9 => c4 ((in_within what 0 2).trans e9)), if_pos c5, if_neg (ne10 c5), if_neg c11, if_neg (show ¬ r_c_within v 1 1000 = 0 from fun e9 => c12 ((in_within v 1 1000).trans e9)), if_neg c13, upd_self]), (by simp only [rm_r, rm_k, ru_c, ru_f, if_pos h7, if_pos hF, if_neg (nc_n h7 c3), if_neg (show ¬ r_c_within what 0 2 = 0 from fun e9 => c4 ((in_within what 0 2).trans e9)), if_pos c5, if_neg (ne10 c5), if_neg c11, if_neg (show ¬ r_c_within v 1 1000 = 0 from fun e9 => c12 ((in_within v 1 1000).trans e9)), if_neg c13, upd_self]), (by simp only [rm_r, rm_k, ru_c, ru_f, if_pos h7, if_pos hF, if_neg (nc_n h7 c3), if_neg (show ¬ r_c_within what 0 2 = 0 from fun e9 => c4 ((in_within what 0 2).trans e9)), if_pos c5, if_neg (ne10 c5), if_neg c11, if_neg (show ¬ r_c_within v 1 1000 = 0 from fun e9 => c12 ((in_within v 1 1000).trans e9)), if_neg c13, upd_self]), (by simp only [rm_r, rm_k, ru_c, ru_f, if_pos h7, if_pos hF, if_neg (nc_n h7 c3), if_neg (show ¬ r_c_within what 0 2 = 0 from fun e9 => c4 ((in_within what 0 2).trans e9)), if_pos c5, if_neg (ne10 c5), if_neg c11, if_neg (show ¬ r_c_within v 1 1000 = 0 from fun e9 => c12 ((in_within v 1 1000).trans e9)), if_neg c13, upd_self])⟩ hP hD (Nat.le_of_ble_eq_true rfl) (Nat.le_of_ble_eq_true rfl) dX12_rule_166
        refine lv_iload_n hx hb dX12_rule_153 rfl (lv_at hl 4 rfl) ?_
        refine lv_goto (tgt := 163) hx hb dX12_rule_154 (by decide) ?_
        refine va_iast hx hb hK hP hD hS 3 0 rfl rfl (noCyl_in h7 c3).1 dX12_rule_163 (fun H locs hP hD hS => ?_)
        replace hP : va_P g.1 vwCl [(h0, .inr (12, mO q i L)), ((q 14), .inl (g.2 0, 6, .inl (upd a14 (cy.toNatClampNeg) (a14 (cy.toNatClampNeg))))), ((q 15), .inl (g.2 0, 6, .inl (upd a15 (cy.toNatClampNeg) v))), ((q 16), .inl (g.2 0, 6, .inl (upd a16 (cy.toNatClampNeg) v)))] H := hP
        replace hD : va_D A [(h0, .inr (12, mO q i L)), ((q 14), .inl (g.2 0, 6, .inl (upd a14 (cy.toNatClampNeg) (a14 (cy.toNatClampNeg))))), ((q 15), .inl (g.2 0, 6, .inl (upd a15 (cy.toNatClampNeg) v))), ((q 16), .inl (g.2 0, 6, .inl (upd a16 (cy.toNatClampNeg) v)))] := hD
        refine lv_iload hx hb dX12_rule_164 (lv_at hl 0 rfl) ?_
        exact retI C hS ((upd a14 (cy.toNatClampNeg) (a14 (cy.toNatClampNeg))), (upd a15 (cy.toNatClampNeg) v), (upd a16 (cy.toNatClampNeg) v)) ⟨(FB_lk (FB_fl hF (fl_in c12 (by decide) (by decide))) (fl_in c12 (by decide) (by decide)).1), (absurd (c5.symm.trans c13) (by decide)), (absurd (c5.symm.trans c13) (by decide)), (absurd (c5.symm.trans c13) (by decide)), (absurd (c5.symm.trans c13) (by decide))⟩ hP hD (Nat.le_of_ble_eq_true rfl) (Nat.le_of_ble_eq_true rfl) dX12_rule_166
      refine lv_bipush (v := -2) hx hb dX12_rule_64 (by decide) ?_
      exact retI C hS (a14, a15, a16) ⟨hF, (by simp only [rm_r, rm_k, ru_c, ru_f, if_pos h7, if_pos hF, if_neg (nc_n h7 c3), if_neg (show ¬ r_c_within what 0 2 = 0 from fun e9 => c4 ((in_within what 0 2).trans e9)), if_pos c5, if_neg (ne10 c5), if_neg c11, if_pos (show r_c_within v 1 1000 = 0 from (in_within v 1 1000).symm.trans c12), upd_self]), (by simp only [rm_r, rm_k, ru_c, ru_f, if_pos h7, if_pos hF, if_neg (nc_n h7 c3), if_neg (show ¬ r_c_within what 0 2 = 0 from fun e9 => c4 ((in_within what 0 2).trans e9)), if_pos c5, if_neg (ne10 c5), if_neg c11, if_pos (show r_c_within v 1 1000 = 0 from (in_within v 1 1000).symm.trans c12), upd_self]), (by simp only [rm_r, rm_k, ru_c, ru_f, if_pos h7, if_pos hF, if_neg (nc_n h7 c3), if_neg (show ¬ r_c_within what 0 2 = 0 from fun e9 => c4 ((in_within what 0 2).trans e9)), if_pos c5, if_neg (ne10 c5), if_neg c11, if_pos (show r_c_within v 1 1000 = 0 from (in_within v 1 1000).symm.trans c12), upd_self]), (by simp only [rm_r, rm_k, ru_c, ru_f, if_pos h7, if_pos hF, if_neg (nc_n h7 c3), if_neg (show ¬ r_c_within what 0 2 = 0 from fun e9 => c4 ((in_within what 0 2).trans e9)), if_pos c5, if_neg (ne10 c5), if_neg c11, if_pos (show r_c_within v 1 1000 = 0 from (in_within v 1 1000).symm.trans c12), upd_self])⟩ hP hD (Nat.le_of_ble_eq_true rfl) (Nat.le_of_ble_eq_true rfl) dX12_rule_66
    refine lv_ldc2 (v := 500) hx hb hown (hts (.constantLong RX12 192 (500)) (List.mem_of_getElem? (i := 2) rfl)) dX12_rule_38 ?_
    refine lv_goto (tgt := 58) hx hb dX12_rule_41 (by decide) ?_
    refine pureIS (As := [.long (Int32.toInt64 v), .long 1, .long 500]) (rest := []) F (c_in l (Int32.toInt64 v) 1 500) 3 gX12_rule_X12_in rfl (by decide +kernel) rfl rfl ⟨(Nat.le_of_ble_eq_true rfl), (Nat.le_of_ble_eq_true rfl)⟩ (Nat.le_of_ble_eq_true rfl) (Nat.le_of_ble_eq_true rfl) rfl hl.1 rfl (Nat.le_of_ble_eq_true rfl) dX12_rule_58 ?_
    refine lv_if_ne (tgt := 67) hx hb dX12_rule_61 (by decide) (fun c14 => ?_) (fun c14 => ?_)
    · refine lv_iload_n hx hb dX12_rule_67 rfl (lv_at hl 2 rfl) ?_
      refine lv_if_ne (tgt := 80) hx hb dX12_rule_68 (by decide) (fun cc0 => absurd c11 cc0) (fun _ => ?_)
      refine lv_aload_n hx hb dX12_rule_71 rfl (lv_at hl 0 rfl) ?_
      refine va_get (D := g.1) (ci := 12) (v := .ref (q 14)) (C := RX12) (T := TX12) (N := 66) hx hb hts hw_X12_rule_X12 hown hK hP 0 rfl rfl 14 (by decide) (hts (.fieldLink RX12 40 "OilPushModel" "crack" "[I") (List.mem_of_getElem? (i := 5) rfl)) (fun _ h => h) rfl dX12_rule_72 ?_
      refine lv_iload_n hx hb dX12_rule_75 rfl (lv_at hl 1 rfl) ?_
      refine va_iald hx hb hK hP 1 0 rfl rfl (noCyl_in h7 c3).1 dX12_rule_76 ?_
      refine lv_goto (tgt := 100) hx hb dX12_rule_77 (by decide) ?_
      refine lv_istore (lv' := [(4, .int (a14 (cy.toNatClampNeg))), (0, .ref h0), (1, .int cy), (2, .int what), (3, .int v)]) hx hb dX12_rule_100 hl (by decide) rfl (fun ls hl => ?_)
      refine lv_aload_n hx hb dX12_rule_102 rfl (lv_at hl 1 rfl) ?_
      refine va_get (D := g.1) (ci := 12) (v := .ref (q 14)) (C := RX12) (T := TX12) (N := 66) hx hb hts hw_X12_rule_X12 hown hK hP 0 rfl rfl 14 (by decide) (hts (.fieldLink RX12 40 "OilPushModel" "crack" "[I") (List.mem_of_getElem? (i := 5) rfl)) (fun _ h => h) rfl dX12_rule_103 ?_
      refine lv_iload_n hx hb dX12_rule_106 rfl (lv_at hl 2 rfl) ?_
      refine lv_iload_n hx hb dX12_rule_107 rfl (lv_at hl 3 rfl) ?_
      refine lv_if_ne (tgt := 115) hx hb dX12_rule_108 (by decide) (fun cc0 => absurd c11 cc0) (fun _ => ?_)
      refine lv_iload_n hx hb dX12_rule_111 rfl (lv_at hl 4 rfl) ?_
      refine lv_goto (tgt := 121) hx hb dX12_rule_112 (by decide) ?_
      refine va_iast hx hb hK hP hD hS 1 0 rfl rfl (noCyl_in h7 c3).1 dX12_rule_121 (fun H locs hP hD hS => ?_)
      replace hP : va_P g.1 vwCl [(h0, .inr (12, mO q i L)), ((q 14), .inl (g.2 0, 6, .inl (upd a14 (cy.toNatClampNeg) v))), ((q 15), .inl (g.2 0, 6, .inl a15)), ((q 16), .inl (g.2 0, 6, .inl a16))] H := hP
      replace hD : va_D A [(h0, .inr (12, mO q i L)), ((q 14), .inl (g.2 0, 6, .inl (upd a14 (cy.toNatClampNeg) v))), ((q 15), .inl (g.2 0, 6, .inl a15)), ((q 16), .inl (g.2 0, 6, .inl a16))] := hD
      refine lv_aload_n hx hb dX12_rule_122 rfl (lv_at hl 1 rfl) ?_
      refine va_get (D := g.1) (ci := 12) (v := .ref (q 15)) (C := RX12) (T := TX12) (N := 66) hx hb hts hw_X12_rule_X12 hown hK hP 0 rfl rfl 15 (by decide) (hts (.fieldLink RX12 43 "OilPushModel" "flow" "[I") (List.mem_of_getElem? (i := 6) rfl)) (fun _ h => h) rfl dX12_rule_123 ?_
      refine lv_iload_n hx hb dX12_rule_126 rfl (lv_at hl 2 rfl) ?_
      refine lv_iload_n hx hb dX12_rule_127 rfl (lv_at hl 3 rfl) ?_
      refine lv_iconst (v := 1) hx hb dX12_rule_128 (by decide) ?_
      refine lv_icmp_ne (tgt := 136) hx hb dX12_rule_129 (by decide) (fun cc0 => absurd c5 cc0) (fun _ => ?_)
      refine lv_iload_n hx hb dX12_rule_132 rfl (lv_at hl 4 rfl) ?_
      refine lv_goto (tgt := 142) hx hb dX12_rule_133 (by decide) ?_
      refine va_iast hx hb hK hP hD hS 2 0 rfl rfl (noCyl_in h7 c3).1 dX12_rule_142 (fun H locs hP hD hS => ?_)
      replace hP : va_P g.1 vwCl [(h0, .inr (12, mO q i L)), ((q 14), .inl (g.2 0, 6, .inl (upd a14 (cy.toNatClampNeg) v))), ((q 15), .inl (g.2 0, 6, .inl (upd a15 (cy.toNatClampNeg) v))), ((q 16), .inl (g.2 0, 6, .inl a16))] H := hP
      replace hD : va_D A [(h0, .inr (12, mO q i L)), ((q 14), .inl (g.2 0, 6, .inl (upd a14 (cy.toNatClampNeg) v))), ((q 15), .inl (g.2 0, 6, .inl (upd a15 (cy.toNatClampNeg) v))), ((q 16), .inl (g.2 0, 6, .inl a16))] := hD
      refine lv_aload_n hx hb dX12_rule_143 rfl (lv_at hl 1 rfl) ?_
      refine va_get (D := g.1) (ci := 12) (v := .ref (q 16)) (C := RX12) (T := TX12) (N := 66) hx hb hts hw_X12_rule_X12 hown hK hP 0 rfl rfl 16 (by decide) (hts (.fieldLink RX12 46 "OilPushModel" "leaks" "[I") (List.mem_of_getElem? (i := 7) rfl)) (fun _ h => h) rfl dX12_rule_144 ?_
      refine lv_iload_n hx hb dX12_rule_147 rfl (lv_at hl 2 rfl) ?_
      refine lv_iload_n hx hb dX12_rule_148 rfl (lv_at hl 3 rfl) ?_
      refine lv_iconst (v := 2) hx hb dX12_rule_149 (by decide) ?_
      refine lv_icmp_ne (tgt := 157) hx hb dX12_rule_150 (by decide) (fun c15 => ?_) (fun c15 => ?_)
      · refine lv_aload_n hx hb dX12_rule_157 rfl (lv_at hl 1 rfl) ?_
        refine va_get (D := g.1) (ci := 12) (v := .ref (q 16)) (C := RX12) (T := TX12) (N := 66) hx hb hts hw_X12_rule_X12 hown hK hP 0 rfl rfl 16 (by decide) (hts (.fieldLink RX12 46 "OilPushModel" "leaks" "[I") (List.mem_of_getElem? (i := 7) rfl)) (fun _ h => h) rfl dX12_rule_158 ?_
        refine lv_iload_n hx hb dX12_rule_161 rfl (lv_at hl 2 rfl) ?_
        refine va_iald hx hb hK hP 3 0 rfl rfl (noCyl_in h7 c3).1 dX12_rule_162 ?_
        refine va_iast hx hb hK hP hD hS 3 0 rfl rfl (noCyl_in h7 c3).1 dX12_rule_163 (fun H locs hP hD hS => ?_)
        replace hP : va_P g.1 vwCl [(h0, .inr (12, mO q i L)), ((q 14), .inl (g.2 0, 6, .inl (upd a14 (cy.toNatClampNeg) v))), ((q 15), .inl (g.2 0, 6, .inl (upd a15 (cy.toNatClampNeg) v))), ((q 16), .inl (g.2 0, 6, .inl (upd a16 (cy.toNatClampNeg) (a16 (cy.toNatClampNeg)))))] H := hP
        replace hD : va_D A [(h0, .inr (12, mO q i L)), ((q 14), .inl (g.2 0, 6, .inl (upd a14 (cy.toNatClampNeg) v))), ((q 15), .inl (g.2 0, 6, .inl (upd a15 (cy.toNatClampNeg) v))), ((q 16), .inl (g.2 0, 6, .inl (upd a16 (cy.toNatClampNeg) (a16 (cy.toNatClampNeg)))))] := hD
        refine lv_iload hx hb dX12_rule_164 (lv_at hl 0 rfl) ?_
        exact retI C hS ((upd a14 (cy.toNatClampNeg) v), (upd a15 (cy.toNatClampNeg) v), (upd a16 (cy.toNatClampNeg) (a16 (cy.toNatClampNeg)))) ⟨(FB_lk (FB_fl hF (fl_in c14 (by decide) (by decide))) (hF _).2), (absurd (c5.symm.trans c11) (by decide)), (absurd (c5.symm.trans c11) (by decide)), (absurd (c5.symm.trans c11) (by decide)), (absurd (c5.symm.trans c11) (by decide))⟩ hP hD (Nat.le_of_ble_eq_true rfl) (Nat.le_of_ble_eq_true rfl) dX12_rule_166
      refine lv_iload_n hx hb dX12_rule_153 rfl (lv_at hl 4 rfl) ?_
      refine lv_goto (tgt := 163) hx hb dX12_rule_154 (by decide) ?_
      refine va_iast hx hb hK hP hD hS 3 0 rfl rfl (noCyl_in h7 c3).1 dX12_rule_163 (fun H locs hP hD hS => ?_)
      replace hP : va_P g.1 vwCl [(h0, .inr (12, mO q i L)), ((q 14), .inl (g.2 0, 6, .inl (upd a14 (cy.toNatClampNeg) v))), ((q 15), .inl (g.2 0, 6, .inl (upd a15 (cy.toNatClampNeg) v))), ((q 16), .inl (g.2 0, 6, .inl (upd a16 (cy.toNatClampNeg) v)))] H := hP
      replace hD : va_D A [(h0, .inr (12, mO q i L)), ((q 14), .inl (g.2 0, 6, .inl (upd a14 (cy.toNatClampNeg) v))), ((q 15), .inl (g.2 0, 6, .inl (upd a15 (cy.toNatClampNeg) v))), ((q 16), .inl (g.2 0, 6, .inl (upd a16 (cy.toNatClampNeg) v)))] := hD
      refine lv_iload hx hb dX12_rule_164 (lv_at hl 0 rfl) ?_
      exact retI C hS ((upd a14 (cy.toNatClampNeg) v), (upd a15 (cy.toNatClampNeg) v), (upd a16 (cy.toNatClampNeg) v)) ⟨(FB_lk (FB_fl hF (fl_in c14 (by decide) (by decide))) (fl_in c14 (by decide) (by decide)).1), (absurd (c5.symm.trans c11) (by decide)), (absurd (c5.symm.trans c11) (by decide)), (absurd (c5.symm.trans c11) (by decide)), (absurd (c5.symm.trans c11) (by decide))⟩ hP hD (Nat.le_of_ble_eq_true rfl) (Nat.le_of_ble_eq_true rfl) dX12_rule_166
    refine lv_bipush (v := -2) hx hb dX12_rule_64 (by decide) ?_
    exact retI C hS (a14, a15, a16) ⟨hF, (absurd (c5.symm.trans c11) (by decide)), (absurd (c5.symm.trans c11) (by decide)), (absurd (c5.symm.trans c11) (by decide)), (absurd (c5.symm.trans c11) (by decide))⟩ hP hD (Nat.le_of_ble_eq_true rfl) (Nat.le_of_ble_eq_true rfl) dX12_rule_66
  refine lv_iconst (v := -1) hx hb dX12_rule_20 (by decide) ?_
  exact retI C hS (a14, a15, a16) ⟨hF, (by simp only [rm_r, rm_k, ru_c, ru_f, if_pos h7, if_pos hF, if_neg (nc_n h7 c3), if_pos (show r_c_within what 0 2 = 0 from (in_within what 0 2).symm.trans c4), upd_self]), (by simp only [rm_r, rm_k, ru_c, ru_f, if_pos h7, if_pos hF, if_neg (nc_n h7 c3), if_pos (show r_c_within what 0 2 = 0 from (in_within what 0 2).symm.trans c4), upd_self]), (by simp only [rm_r, rm_k, ru_c, ru_f, if_pos h7, if_pos hF, if_neg (nc_n h7 c3), if_pos (show r_c_within what 0 2 = 0 from (in_within what 0 2).symm.trans c4), upd_self]), (by simp only [rm_r, rm_k, ru_c, ru_f, if_pos h7, if_pos hF, if_neg (nc_n h7 c3), if_pos (show r_c_within what 0 2 = 0 from (in_within what 0 2).symm.trans c4), upd_self])⟩ hP hD (Nat.le_of_ble_eq_true rfl) (Nat.le_of_ble_eq_true rfl) dX12_rule_21
theorem hw_X12_fill_X12 : ∀ w ∈ wsX120, w ∈ wsX12_fill := fun w h => List.mem_cons_of_mem _ (List.mem_append_right _ h)
set_option maxRecDepth 100000 in
set_option maxHeartbeats 4000000 in
theorem w_fill (l : Launch) (g : Gt) (h0 : Nat) (q : Nat → Nat) (i : Nat → Int32) (L : Nat → Int64) (a11 : Nat → Int32) (a9 : Nat → Int32) (a10 : Nat → Int32) (a12 : Nat → Int32) (cy : Int32) (v : Int32) (h7 : 0 ≤ (i 7).toInt ∧ (i 7).toInt ≤ 6) (hM : MCI i a9 a10 a12) (hO : OB a11) : Ctr l g yX12_fill wsX12_fill ({ frames := 2, cells := 0, slots := 0, locals := 46 } : Room) [.ref h0, .int cy, .int v] [(h0, .inr (12, mO q i L)), ((q 11), .inl (g.2 0, 6, .inl a11)), ((q 9), .inl (g.2 0, 6, .inl a9)), ((q 10), .inl (g.2 0, 6, .inl a10)), ((q 12), .inl (g.2 0, 6, .inl a12))] (fun A => QI g A (fun r (u : (Nat → Int32)) => (OB u)) (fun (u : (Nat → Int32)) => [(h0, .inr (12, mO q i L)), ((q 11), .inl (g.2 0, 6, .inl u)), ((q 9), .inl (g.2 0, 6, .inl a9)), ((q 10), .inl (g.2 0, 6, .inl a10)), ((q 12), .inl (g.2 0, 6, .inl a12))])) := by
  refine Ctr.of (cc := cX12_fill) (maxL := 4) (ret := (some .int)) (by decide) rfl (Nat.le_of_ble_eq_true rfl) ?_
  intro p e s m below meth c A ls H C hP hD hA hS hl
  obtain ⟨hx, hb, hr, hts, hown, hlocks, hml, hin, hKN⟩ := id C
  have hK := hKN.1
  have hN := hKN.2
  have F : CallFix p m c cX12_fill 4 s _ wsX12_fill yX12_fill.cls := ⟨hx, hb, hml, hown, hts⟩
  have hl : lv_has ls 4 [(0, .ref h0), (1, .int cy), (2, .int v)] := hl
  refine lv_aload_n hx hb dX12_fill_0 rfl (lv_at hl 0 rfl) ?_
  refine lv_iload_n hx hb dX12_fill_1 rfl (lv_at hl 1 rfl) ?_
  refine kI (rnV (As := [.int cy]) (rest := []) (Cn := RX12) C (g_noCylinder l g h0 q i L cy) 1 gX12_fill_X12_noCylinder rfl (by decide +kernel) ⟨(Nat.le_of_ble_eq_true rfl), (Nat.le_of_ble_eq_true rfl)⟩ hP (k := 0) (ci := 12) rfl rfl rfl rfl hl.1 rfl (Nat.le_of_ble_eq_true rfl) dX12_fill_2 ⟨(Nat.le_of_ble_eq_true rfl), (Nat.le_of_ble_eq_true rfl)⟩) (spM0 [true, false, false, false, false] hP hD rfl) hA hS (fun r1 u2 H locs hw hP hD hS => ?_)
  have hre := hw
  replace hP : va_P g.1 vwCl [(h0, .inr (12, mO q i L)), ((q 11), .inl (g.2 0, 6, .inl a11)), ((q 9), .inl (g.2 0, 6, .inl a9)), ((q 10), .inl (g.2 0, 6, .inl a10)), ((q 12), .inl (g.2 0, 6, .inl a12))] H := hP
  replace hD : va_D A [(h0, .inr (12, mO q i L)), ((q 11), .inl (g.2 0, 6, .inl a11)), ((q 9), .inl (g.2 0, 6, .inl a9)), ((q 10), .inl (g.2 0, 6, .inl a10)), ((q 12), .inl (g.2 0, 6, .inl a12))] := hD
  refine nx_i (v := (r_g_noCylinder i cy)) hre ?_
  refine lv_if_eq (tgt := 10) hx hb dX12_fill_5 (by decide) (fun c3 => ?_) (fun c3 => ?_)
  · refine lv_iload_n hx hb dX12_fill_10 rfl (lv_at hl 2 rfl) ?_
    refine lv_i2l hx hb dX12_fill_11 rfl ?_
    refine lv_lconst (v := 0) hx hb dX12_fill_12 (by decide) ?_
    refine lv_aload_n hx hb dX12_fill_13 rfl (lv_at hl 0 rfl) ?_
    refine lv_iload_n hx hb dX12_fill_14 rfl (lv_at hl 1 rfl) ?_
    refine kI (rnV (As := [.int cy]) (rest := [.long 0, .long (Int32.toInt64 v)]) (Cn := RX12) C (g_room l g h0 q i L a9 a10 cy (noCyl_in h7 c3).1) 1 gX12_fill_X12_room rfl (by decide +kernel) ⟨(Nat.le_of_ble_eq_true rfl), (Nat.le_of_ble_eq_true rfl)⟩ hP (k := 0) (ci := 12) rfl rfl rfl rfl hl.1 rfl (Nat.le_of_ble_eq_true rfl) dX12_fill_15 ⟨(Nat.le_of_ble_eq_true rfl), (Nat.le_of_ble_eq_true rfl)⟩) (spM0 [true, false, true, true, false] hP hD rfl) hA hS (fun r4 u5 H locs hw hP hD hS => ?_)
    have hre := hw
    replace hP : va_P g.1 vwCl [(h0, .inr (12, mO q i L)), ((q 11), .inl (g.2 0, 6, .inl a11)), ((q 9), .inl (g.2 0, 6, .inl a9)), ((q 10), .inl (g.2 0, 6, .inl a10)), ((q 12), .inl (g.2 0, 6, .inl a12))] H := hP
    replace hD : va_D A [(h0, .inr (12, mO q i L)), ((q 11), .inl (g.2 0, 6, .inl a11)), ((q 9), .inl (g.2 0, 6, .inl a9)), ((q 10), .inl (g.2 0, 6, .inl a10)), ((q 12), .inl (g.2 0, 6, .inl a12))] := hD
    refine nx_i (v := ((a9 (cy.toNatClampNeg)) * (a10 (cy.toNatClampNeg)))) hre ?_
    refine lv_i2l hx hb dX12_fill_18 rfl ?_
    refine pureIS (As := [.long (Int32.toInt64 v), .long 0, .long (Int32.toInt64 ((a9 (cy.toNatClampNeg)) * (a10 (cy.toNatClampNeg))))]) (rest := []) F (c_in l (Int32.toInt64 v) 0 (Int32.toInt64 ((a9 (cy.toNatClampNeg)) * (a10 (cy.toNatClampNeg))))) 3 gX12_fill_X12_in rfl (by decide +kernel) rfl rfl ⟨(Nat.le_of_ble_eq_true rfl), (Nat.le_of_ble_eq_true rfl)⟩ (Nat.le_of_ble_eq_true rfl) (Nat.le_of_ble_eq_true rfl) rfl hl.1 rfl (Nat.le_of_ble_eq_true rfl) dX12_fill_19 ?_
    refine lv_if_ne (tgt := 28) hx hb dX12_fill_22 (by decide) (fun c6 => ?_) (fun c6 => ?_)
    · refine lv_aload_n hx hb dX12_fill_28 rfl (lv_at hl 0 rfl) ?_
      refine va_get (D := g.1) (ci := 12) (v := .ref (q 11)) (C := RX12) (T := TX12) (N := 66) hx hb hts hw_X12_fill_X12 hown hK hP 0 rfl rfl 11 (by decide) (hts (.fieldLink RX12 31 "OilPushModel" "oil" "[I") (List.mem_of_getElem? (i := 1) rfl)) (fun _ h => h) rfl dX12_fill_29 ?_
      refine lv_iload_n hx hb dX12_fill_32 rfl (lv_at hl 1 rfl) ?_
      refine va_iald hx hb hK hP 1 0 rfl rfl (noCyl_in h7 c3).1 dX12_fill_33 ?_
      refine lv_istore_n (lv' := [(3, .int (a11 (cy.toNatClampNeg))), (0, .ref h0), (1, .int cy), (2, .int v)]) hx hb dX12_fill_34 rfl hl (by decide) rfl (fun ls hl => ?_)
      refine lv_aload_n hx hb dX12_fill_35 rfl (lv_at hl 1 rfl) ?_
      refine va_get (D := g.1) (ci := 12) (v := .ref (q 11)) (C := RX12) (T := TX12) (N := 66) hx hb hts hw_X12_fill_X12 hown hK hP 0 rfl rfl 11 (by decide) (hts (.fieldLink RX12 31 "OilPushModel" "oil" "[I") (List.mem_of_getElem? (i := 1) rfl)) (fun _ h => h) rfl dX12_fill_36 ?_
      refine lv_iload_n hx hb dX12_fill_39 rfl (lv_at hl 2 rfl) ?_
      refine lv_iload_n hx hb dX12_fill_40 rfl (lv_at hl 3 rfl) ?_
      refine va_iast hx hb hK hP hD hS 1 0 rfl rfl (noCyl_in h7 c3).1 dX12_fill_41 (fun H locs hP hD hS => ?_)
      replace hP : va_P g.1 vwCl [(h0, .inr (12, mO q i L)), ((q 11), .inl (g.2 0, 6, .inl (upd a11 (cy.toNatClampNeg) v))), ((q 9), .inl (g.2 0, 6, .inl a9)), ((q 10), .inl (g.2 0, 6, .inl a10)), ((q 12), .inl (g.2 0, 6, .inl a12))] H := hP
      replace hD : va_D A [(h0, .inr (12, mO q i L)), ((q 11), .inl (g.2 0, 6, .inl (upd a11 (cy.toNatClampNeg) v))), ((q 9), .inl (g.2 0, 6, .inl a9)), ((q 10), .inl (g.2 0, 6, .inl a10)), ((q 12), .inl (g.2 0, 6, .inl a12))] := hD
      refine lv_iload_n hx hb dX12_fill_42 rfl (lv_at hl 0 rfl) ?_
      exact retI C hS (upd a11 (cy.toNatClampNeg) v) (OB_upd hO (room_30 hM (noCyl_in h7 c3).1 (noCyl_in h7 c3).2 c6)) hP hD (Nat.le_of_ble_eq_true rfl) (Nat.le_of_ble_eq_true rfl) dX12_fill_43
    refine lv_bipush (v := -2) hx hb dX12_fill_25 (by decide) ?_
    exact retI C hS a11 hO hP hD (Nat.le_of_ble_eq_true rfl) (Nat.le_of_ble_eq_true rfl) dX12_fill_27
  refine lv_iconst (v := -1) hx hb dX12_fill_8 (by decide) ?_
  exact retI C hS a11 hO hP hD (Nat.le_of_ble_eq_true rfl) (Nat.le_of_ble_eq_true rfl) dX12_fill_9
theorem hw_X12_store_X12 : ∀ w ∈ wsX120, w ∈ wsX12_store := fun w h => List.mem_cons_of_mem _ (List.mem_append_right _ h)
set_option maxRecDepth 100000 in
set_option maxHeartbeats 4000000 in
theorem w_store (l : Launch) (g : Gt) (h0 : Nat) (q : Nat → Nat) (i : Nat → Int32) (L : Nat → Int64) (x1 : Int32) (x2 : Int32) (x3 : Int32) (h20 : 0 ≤ (i 20).toInt ∧ (i 20).toInt ≤ 5000) (h22 : ¬ (i 22) = 0) : Ctr l g yX12_store wsX12_store ({ frames := 1, cells := 0, slots := 0, locals := 25 } : Room) [.ref h0, .int x1, .int x2, .int x3] [(h0, .inr (12, mO q i L))] (fun A => QI g A (fun r (u : Int32 × Int32 × Int32) => (0 ≤ (u.1).toInt ∧ (u.1).toInt ≤ 5000) ∧ (¬ (u.2.2) = 0)) (fun (u : Int32 × Int32 × Int32) => [(h0, .inr (12, mO q (upd (upd (upd i 20 u.1) 21 u.2.1) 22 u.2.2) L))])) := by
  refine Ctr.of (cc := cX12_store) (maxL := 4) (ret := (some .int)) (by decide) rfl (Nat.le_of_ble_eq_true rfl) ?_
  intro p e s m below meth c A ls H C hP hD hA hS hl
  obtain ⟨hx, hb, hr, hts, hown, hlocks, hml, hin, hKN⟩ := id C
  have hK := hKN.1
  have hN := hKN.2
  have F : CallFix p m c cX12_store 4 s _ wsX12_store yX12_store.cls := ⟨hx, hb, hml, hown, hts⟩
  have hl : lv_has ls 4 [(0, .ref h0), (1, .int x1), (2, .int x2), (3, .int x3)] := hl
  refine lv_iload_n hx hb dX12_store_0 rfl (lv_at hl 1 rfl) ?_
  refine lv_i2l hx hb dX12_store_1 rfl ?_
  refine lv_lconst (v := 0) hx hb dX12_store_2 (by decide) ?_
  refine lv_ldc2 (v := 5000) hx hb hown (hts (.constantLong RX12 201 (5000)) (List.mem_of_getElem? (i := 1) rfl)) dX12_store_3 ?_
  refine pureIS (As := [.long (Int32.toInt64 x1), .long 0, .long 5000]) (rest := []) F (c_in l (Int32.toInt64 x1) 0 5000) 3 gX12_store_X12_in rfl (by decide +kernel) rfl rfl ⟨(Nat.le_of_ble_eq_true rfl), (Nat.le_of_ble_eq_true rfl)⟩ (Nat.le_of_ble_eq_true rfl) (Nat.le_of_ble_eq_true rfl) rfl hl.1 rfl (Nat.le_of_ble_eq_true rfl) dX12_store_6 ?_
  refine lv_if_eq (tgt := 36) hx hb dX12_store_9 (by decide) (fun c1 => ?_) (fun c1 => ?_)
  · refine lv_bipush (v := -2) hx hb dX12_store_36 (by decide) ?_
    exact retI C hS ((i 20), (i 21), (i 22)) ⟨h20, h22⟩ hP hD (Nat.le_of_ble_eq_true rfl) (Nat.le_of_ble_eq_true rfl) dX12_store_38
  refine lv_iload_n hx hb dX12_store_12 rfl (lv_at hl 2 rfl) ?_
  refine lv_i2l hx hb dX12_store_13 rfl ?_
  refine lv_lconst (v := 0) hx hb dX12_store_14 (by decide) ?_
  refine lv_ldc2 (v := 1000) hx hb hown (hts (.constantLong RX12 182 (1000)) (List.mem_of_getElem? (i := 2) rfl)) dX12_store_15 ?_
  refine pureIS (As := [.long (Int32.toInt64 x2), .long 0, .long 1000]) (rest := []) F (c_in l (Int32.toInt64 x2) 0 1000) 3 gX12_store_X12_in rfl (by decide +kernel) rfl rfl ⟨(Nat.le_of_ble_eq_true rfl), (Nat.le_of_ble_eq_true rfl)⟩ (Nat.le_of_ble_eq_true rfl) (Nat.le_of_ble_eq_true rfl) rfl hl.1 rfl (Nat.le_of_ble_eq_true rfl) dX12_store_18 ?_
  refine lv_if_eq (tgt := 36) hx hb dX12_store_21 (by decide) (fun c2 => ?_) (fun c2 => ?_)
  · refine lv_bipush (v := -2) hx hb dX12_store_36 (by decide) ?_
    exact retI C hS ((i 20), (i 21), (i 22)) ⟨h20, h22⟩ hP hD (Nat.le_of_ble_eq_true rfl) (Nat.le_of_ble_eq_true rfl) dX12_store_38
  refine lv_iload_n hx hb dX12_store_24 rfl (lv_at hl 3 rfl) ?_
  refine lv_i2l hx hb dX12_store_25 rfl ?_
  refine lv_lconst (v := 1) hx hb dX12_store_26 (by decide) ?_
  refine lv_ldc2 (v := 100) hx hb hown (hts (.constantLong RX12 187 (100)) (List.mem_of_getElem? (i := 3) rfl)) dX12_store_27 ?_
  refine pureIS (As := [.long (Int32.toInt64 x3), .long 1, .long 100]) (rest := []) F (c_in l (Int32.toInt64 x3) 1 100) 3 gX12_store_X12_in rfl (by decide +kernel) rfl rfl ⟨(Nat.le_of_ble_eq_true rfl), (Nat.le_of_ble_eq_true rfl)⟩ (Nat.le_of_ble_eq_true rfl) (Nat.le_of_ble_eq_true rfl) rfl hl.1 rfl (Nat.le_of_ble_eq_true rfl) dX12_store_30 ?_
  refine lv_if_ne (tgt := 39) hx hb dX12_store_33 (by decide) (fun c3 => ?_) (fun c3 => ?_)
  · refine lv_aload_n hx hb dX12_store_39 rfl (lv_at hl 0 rfl) ?_
    refine va_get (D := g.1) (ci := 12) (v := .int (i 23)) (C := RX12) (T := TX12) (N := 66) hx hb hts hw_X12_store_X12 hown hK hP 0 rfl rfl 23 (by decide) (hts (.fieldLink RX12 203 "OilPushModel" "kept" "I") (List.mem_of_getElem? (i := 4) rfl)) (fun _ h => h) rfl dX12_store_40 ?_
    refine lv_iload_n hx hb dX12_store_43 rfl (lv_at hl 1 rfl) ?_
    refine lv_icmp_le (tgt := 50) hx hb dX12_store_44 (by decide) (fun c4 => ?_) (fun c4 => ?_)
    · refine lv_aload_n hx hb dX12_store_50 rfl (lv_at hl 0 rfl) ?_
      refine lv_iload_n hx hb dX12_store_51 rfl (lv_at hl 1 rfl) ?_
      refine va_put (D := g.1) (ci := 12) (v := .int x1) (ty := .int) (C := RX12) (T := TX12) (N := 66) hx hb hts hw_X12_store_X12 tyX12 tyX12_ok nmX12 hown hK hP hD hS 0 rfl rfl 20 (by decide) (hts (.fieldLink RX12 206 "OilPushModel" "cap" "I") (List.mem_of_getElem? (i := 5) rfl)) (fun _ h => h) rfl (by decide +kernel) rfl rfl (Nat.le_of_ble_eq_true rfl) dX12_store_52 (fun H locs hP hD hS => ?_)
      replace hP : va_P g.1 vwCl [(h0, .inr (12, mO q (upd i 20 x1) L))] H := hP
      replace hD : va_D A [(h0, .inr (12, mO q (upd i 20 x1) L))] := hD
      refine lv_aload_n hx hb dX12_store_55 rfl (lv_at hl 0 rfl) ?_
      refine lv_iload_n hx hb dX12_store_56 rfl (lv_at hl 2 rfl) ?_
      refine va_put (D := g.1) (ci := 12) (v := .int x2) (ty := .int) (C := RX12) (T := TX12) (N := 66) hx hb hts hw_X12_store_X12 tyX12 tyX12_ok nmX12 hown hK hP hD hS 0 rfl rfl 21 (by decide) (hts (.fieldLink RX12 209 "OilPushModel" "first" "I") (List.mem_of_getElem? (i := 6) rfl)) (fun _ h => h) rfl (by decide +kernel) rfl rfl (Nat.le_of_ble_eq_true rfl) dX12_store_57 (fun H locs hP hD hS => ?_)
      replace hP : va_P g.1 vwCl [(h0, .inr (12, mO q (upd (upd i 20 x1) 21 x2) L))] H := hP
      replace hD : va_D A [(h0, .inr (12, mO q (upd (upd i 20 x1) 21 x2) L))] := hD
      refine lv_aload_n hx hb dX12_store_60 rfl (lv_at hl 0 rfl) ?_
      refine lv_iload_n hx hb dX12_store_61 rfl (lv_at hl 3 rfl) ?_
      refine va_put (D := g.1) (ci := 12) (v := .int x3) (ty := .int) (C := RX12) (T := TX12) (N := 66) hx hb hts hw_X12_store_X12 tyX12 tyX12_ok nmX12 hown hK hP hD hS 0 rfl rfl 22 (by decide) (hts (.fieldLink RX12 133 "OilPushModel" "stiff" "I") (List.mem_of_getElem? (i := 7) rfl)) (fun _ h => h) rfl (by decide +kernel) rfl rfl (Nat.le_of_ble_eq_true rfl) dX12_store_62 (fun H locs hP hD hS => ?_)
      replace hP : va_P g.1 vwCl [(h0, .inr (12, mO q (upd (upd (upd i 20 x1) 21 x2) 22 x3) L))] H := hP
      replace hD : va_D A [(h0, .inr (12, mO q (upd (upd (upd i 20 x1) 21 x2) 22 x3) L))] := hD
      refine lv_iconst (v := 1) hx hb dX12_store_65 (by decide) ?_
      exact retI C hS (x1, x2, x3) ⟨(in_l c1), (st_ne c3)⟩ hP hD (Nat.le_of_ble_eq_true rfl) (Nat.le_of_ble_eq_true rfl) dX12_store_66
    refine lv_bipush (v := -3) hx hb dX12_store_47 (by decide) ?_
    exact retI C hS ((i 20), (i 21), (i 22)) ⟨h20, h22⟩ hP hD (Nat.le_of_ble_eq_true rfl) (Nat.le_of_ble_eq_true rfl) dX12_store_49
  refine lv_bipush (v := -2) hx hb dX12_store_36 (by decide) ?_
  exact retI C hS ((i 20), (i 21), (i 22)) ⟨h20, h22⟩ hP hD (Nat.le_of_ble_eq_true rfl) (Nat.le_of_ble_eq_true rfl) dX12_store_38
theorem hw_X12_order_X12 : ∀ w ∈ wsX120, w ∈ wsX12_order := fun w h => List.mem_cons_of_mem _ (List.mem_append_right _ h)
set_option maxRecDepth 100000 in
set_option maxHeartbeats 4000000 in
theorem w_order (l : Launch) (g : Gt) (h0 : Nat) (q : Nat → Nat) (i : Nat → Int32) (L : Nat → Int64) (a25 : Nat → Int32) (a26 : Nat → Int32) (a27 : Nat → Int32) (a28 : Nat → Int32) (cy : Int32) (en : Int32) (d : Int32) (v : Int32) (h7 : 0 ≤ (i 7).toInt ∧ (i 7).toInt ≤ 6) (h24 : 0 ≤ (i 24).toInt ∧ (i 24).toInt ≤ 30) (h25 : RI a25) (h27 : RI a27) : Ctr l g yX12_order wsX12_order ({ frames := 2, cells := 0, slots := 0, locals := 46 } : Room) [.ref h0, .int cy, .int en, .int d, .int v] [(h0, .inr (12, mO q i L)), ((q 25), .inl (g.2 0, 30, .inl a25)), ((q 26), .inl (g.2 0, 30, .inl a26)), ((q 27), .inl (g.2 0, 30, .inl a27)), ((q 28), .inl (g.2 0, 30, .inl a28))] (fun A => QI g A (fun r (u : Int32 × (Nat → Int32) × (Nat → Int32) × (Nat → Int32) × (Nat → Int32)) => (r = so_r (i 7) (i 24) cy en d v) ∧ (u.1 = so_n (i 7) (i 24) cy en d v) ∧ (0 ≤ (u.1).toInt ∧ (u.1).toInt ≤ 30) ∧ (RI u.2.1) ∧ (RI u.2.2.2.1)) (fun (u : Int32 × (Nat → Int32) × (Nat → Int32) × (Nat → Int32) × (Nat → Int32)) => [(h0, .inr (12, mO q (upd i 24 u.1) L)), ((q 25), .inl (g.2 0, 30, .inl u.2.1)), ((q 26), .inl (g.2 0, 30, .inl u.2.2.1)), ((q 27), .inl (g.2 0, 30, .inl u.2.2.2.1)), ((q 28), .inl (g.2 0, 30, .inl u.2.2.2.2))])) := by
  refine Ctr.of (cc := cX12_order) (maxL := 5) (ret := (some .int)) (by decide) rfl (Nat.le_of_ble_eq_true rfl) ?_
  intro p e s m below meth c A ls H C hP hD hA hS hl
  obtain ⟨hx, hb, hr, hts, hown, hlocks, hml, hin, hKN⟩ := id C
  have hK := hKN.1
  have hN := hKN.2
  have F : CallFix p m c cX12_order 5 s _ wsX12_order yX12_order.cls := ⟨hx, hb, hml, hown, hts⟩
  have hl : lv_has ls 5 [(0, .ref h0), (1, .int cy), (2, .int en), (3, .int d), (4, .int v)] := hl
  refine lv_aload_n hx hb dX12_order_0 rfl (lv_at hl 0 rfl) ?_
  refine lv_iload_n hx hb dX12_order_1 rfl (lv_at hl 1 rfl) ?_
  refine kI (rnV (As := [.int cy]) (rest := []) (Cn := RX12) C (g_noCylinder l g h0 q i L cy) 1 gX12_order_X12_noCylinder rfl (by decide +kernel) ⟨(Nat.le_of_ble_eq_true rfl), (Nat.le_of_ble_eq_true rfl)⟩ hP (k := 0) (ci := 12) rfl rfl rfl rfl hl.1 rfl (Nat.le_of_ble_eq_true rfl) dX12_order_2 ⟨(Nat.le_of_ble_eq_true rfl), (Nat.le_of_ble_eq_true rfl)⟩) (spM0 [true, false, false, false, false] hP hD rfl) hA hS (fun r1 u2 H locs hw hP hD hS => ?_)
  have hre := hw
  replace hP : va_P g.1 vwCl [(h0, .inr (12, mO q i L)), ((q 25), .inl (g.2 0, 30, .inl a25)), ((q 26), .inl (g.2 0, 30, .inl a26)), ((q 27), .inl (g.2 0, 30, .inl a27)), ((q 28), .inl (g.2 0, 30, .inl a28))] H := hP
  replace hD : va_D A [(h0, .inr (12, mO q i L)), ((q 25), .inl (g.2 0, 30, .inl a25)), ((q 26), .inl (g.2 0, 30, .inl a26)), ((q 27), .inl (g.2 0, 30, .inl a27)), ((q 28), .inl (g.2 0, 30, .inl a28))] := hD
  refine nx_i (v := (r_g_noCylinder i cy)) hre ?_
  refine lv_if_ne (tgt := 16) hx hb dX12_order_5 (by decide) (fun c3 => ?_) (fun c3 => ?_)
  · refine lv_iconst (v := -1) hx hb dX12_order_16 (by decide) ?_
    exact retI C hS ((i 24), a25, a26, a27, a28) ⟨(by simp only [so_r, so_n, if_pos h7, if_pos h24, if_pos h25, if_pos h27, if_pos (nc_y h7 c3)]), (by simp only [so_r, so_n, if_pos h7, if_pos h24, if_pos h25, if_pos h27, if_pos (nc_y h7 c3)]), h24, h25, h27⟩ hP hD (Nat.le_of_ble_eq_true rfl) (Nat.le_of_ble_eq_true rfl) dX12_order_17
  refine lv_aload_n hx hb dX12_order_8 rfl (lv_at hl 0 rfl) ?_
  refine lv_iload_n hx hb dX12_order_9 rfl (lv_at hl 3 rfl) ?_
  refine kI (rnV (As := [.int d]) (rest := []) (Cn := RX12) C (g_noCylinder l g h0 q i L d) 1 gX12_order_X12_noCylinder rfl (by decide +kernel) ⟨(Nat.le_of_ble_eq_true rfl), (Nat.le_of_ble_eq_true rfl)⟩ hP (k := 0) (ci := 12) rfl rfl rfl rfl hl.1 rfl (Nat.le_of_ble_eq_true rfl) dX12_order_10 ⟨(Nat.le_of_ble_eq_true rfl), (Nat.le_of_ble_eq_true rfl)⟩) (spM0 [true, false, false, false, false] hP hD rfl) hA hS (fun r4 u5 H locs hw hP hD hS => ?_)
  have hre := hw
  replace hP : va_P g.1 vwCl [(h0, .inr (12, mO q i L)), ((q 25), .inl (g.2 0, 30, .inl a25)), ((q 26), .inl (g.2 0, 30, .inl a26)), ((q 27), .inl (g.2 0, 30, .inl a27)), ((q 28), .inl (g.2 0, 30, .inl a28))] H := hP
  replace hD : va_D A [(h0, .inr (12, mO q i L)), ((q 25), .inl (g.2 0, 30, .inl a25)), ((q 26), .inl (g.2 0, 30, .inl a26)), ((q 27), .inl (g.2 0, 30, .inl a27)), ((q 28), .inl (g.2 0, 30, .inl a28))] := hD
  refine nx_i (v := (r_g_noCylinder i d)) hre ?_
  refine lv_if_eq (tgt := 18) hx hb dX12_order_13 (by decide) (fun c6 => ?_) (fun c6 => ?_)
  · refine lv_iload_n hx hb dX12_order_18 rfl (lv_at hl 2 rfl) ?_
    refine lv_i2l hx hb dX12_order_19 rfl ?_
    refine lv_lconst (v := 0) hx hb dX12_order_20 (by decide) ?_
    refine lv_ldc2 (v := 2) hx hb hown (hts (.constantLong RX12 162 (2)) (List.mem_of_getElem? (i := 1) rfl)) dX12_order_21 ?_
    refine pureIS (As := [.long (Int32.toInt64 en), .long 0, .long 2]) (rest := []) F (c_in l (Int32.toInt64 en) 0 2) 3 gX12_order_X12_in rfl (by decide +kernel) rfl rfl ⟨(Nat.le_of_ble_eq_true rfl), (Nat.le_of_ble_eq_true rfl)⟩ (Nat.le_of_ble_eq_true rfl) (Nat.le_of_ble_eq_true rfl) rfl hl.1 rfl (Nat.le_of_ble_eq_true rfl) dX12_order_24 ?_
    refine lv_if_eq (tgt := 43) hx hb dX12_order_27 (by decide) (fun c7 => ?_) (fun c7 => ?_)
    · refine lv_bipush (v := -2) hx hb dX12_order_43 (by decide) ?_
      exact retI C hS ((i 24), a25, a26, a27, a28) ⟨(by simp only [so_r, so_n, if_pos h7, if_pos h24, if_pos h25, if_pos h27, if_neg (nc_n h7 c3), if_neg (nc_n h7 c6), if_pos (show r_c_within en 0 2 = 0 from (in_within en 0 2).symm.trans c7)]), (by simp only [so_r, so_n, if_pos h7, if_pos h24, if_pos h25, if_pos h27, if_neg (nc_n h7 c3), if_neg (nc_n h7 c6), if_pos (show r_c_within en 0 2 = 0 from (in_within en 0 2).symm.trans c7)]), h24, h25, h27⟩ hP hD (Nat.le_of_ble_eq_true rfl) (Nat.le_of_ble_eq_true rfl) dX12_order_45
    refine lv_iload hx hb dX12_order_30 (lv_at hl 4 rfl) ?_
    refine lv_i2l hx hb dX12_order_32 rfl ?_
    refine lv_lconst (v := 0) hx hb dX12_order_33 (by decide) ?_
    refine lv_ldc2 (v := 2) hx hb hown (hts (.constantLong RX12 162 (2)) (List.mem_of_getElem? (i := 1) rfl)) dX12_order_34 ?_
    refine pureIS (As := [.long (Int32.toInt64 v), .long 0, .long 2]) (rest := []) F (c_in l (Int32.toInt64 v) 0 2) 3 gX12_order_X12_in rfl (by decide +kernel) rfl rfl ⟨(Nat.le_of_ble_eq_true rfl), (Nat.le_of_ble_eq_true rfl)⟩ (Nat.le_of_ble_eq_true rfl) (Nat.le_of_ble_eq_true rfl) rfl hl.1 rfl (Nat.le_of_ble_eq_true rfl) dX12_order_37 ?_
    refine lv_if_ne (tgt := 46) hx hb dX12_order_40 (by decide) (fun c8 => ?_) (fun c8 => ?_)
    · refine lv_aload_n hx hb dX12_order_46 rfl (lv_at hl 0 rfl) ?_
      refine va_get (D := g.1) (ci := 12) (v := .int (i 24)) (C := RX12) (T := TX12) (N := 66) hx hb hts hw_X12_order_X12 hown hK hP 0 rfl rfl 24 (by decide) (hts (.fieldLink RX12 221 "OilPushModel" "orders" "I") (List.mem_of_getElem? (i := 2) rfl)) (fun _ h => h) rfl dX12_order_47 ?_
      refine lv_bipush (v := 30) hx hb dX12_order_50 (by decide) ?_
      refine lv_icmp_ne (tgt := 58) hx hb dX12_order_52 (by decide) (fun c9 => ?_) (fun c9 => ?_)
      · refine lv_aload_n hx hb dX12_order_58 rfl (lv_at hl 0 rfl) ?_
        refine va_get (D := g.1) (ci := 12) (v := .ref (q 25)) (C := RX12) (T := TX12) (N := 66) hx hb hts hw_X12_order_X12 hown hK hP 0 rfl rfl 25 (by decide) (hts (.fieldLink RX12 59 "OilPushModel" "orderC" "[I") (List.mem_of_getElem? (i := 3) rfl)) (fun _ h => h) rfl dX12_order_59 ?_
        refine lv_aload_n hx hb dX12_order_62 rfl (lv_at hl 0 rfl) ?_
        refine va_get (D := g.1) (ci := 12) (v := .int (i 24)) (C := RX12) (T := TX12) (N := 66) hx hb hts hw_X12_order_X12 hown hK hP 0 rfl rfl 24 (by decide) (hts (.fieldLink RX12 221 "OilPushModel" "orders" "I") (List.mem_of_getElem? (i := 2) rfl)) (fun _ h => h) rfl dX12_order_63 ?_
        refine lv_iload_n hx hb dX12_order_66 rfl (lv_at hl 1 rfl) ?_
        refine va_iast hx hb hK hP hD hS 1 0 rfl rfl (at_full (by decide) h24 c9) dX12_order_67 (fun H locs hP hD hS => ?_)
        replace hP : va_P g.1 vwCl [(h0, .inr (12, mO q i L)), ((q 25), .inl (g.2 0, 30, .inl (upd a25 ((i 24).toNatClampNeg) cy))), ((q 26), .inl (g.2 0, 30, .inl a26)), ((q 27), .inl (g.2 0, 30, .inl a27)), ((q 28), .inl (g.2 0, 30, .inl a28))] H := hP
        replace hD : va_D A [(h0, .inr (12, mO q i L)), ((q 25), .inl (g.2 0, 30, .inl (upd a25 ((i 24).toNatClampNeg) cy))), ((q 26), .inl (g.2 0, 30, .inl a26)), ((q 27), .inl (g.2 0, 30, .inl a27)), ((q 28), .inl (g.2 0, 30, .inl a28))] := hD
        refine lv_aload_n hx hb dX12_order_68 rfl (lv_at hl 0 rfl) ?_
        refine va_get (D := g.1) (ci := 12) (v := .ref (q 26)) (C := RX12) (T := TX12) (N := 66) hx hb hts hw_X12_order_X12 hown hK hP 0 rfl rfl 26 (by decide) (hts (.fieldLink RX12 62 "OilPushModel" "orderEnd" "[I") (List.mem_of_getElem? (i := 4) rfl)) (fun _ h => h) rfl dX12_order_69 ?_
        refine lv_aload_n hx hb dX12_order_72 rfl (lv_at hl 0 rfl) ?_
        refine va_get (D := g.1) (ci := 12) (v := .int (i 24)) (C := RX12) (T := TX12) (N := 66) hx hb hts hw_X12_order_X12 hown hK hP 0 rfl rfl 24 (by decide) (hts (.fieldLink RX12 221 "OilPushModel" "orders" "I") (List.mem_of_getElem? (i := 2) rfl)) (fun _ h => h) rfl dX12_order_73 ?_
        refine lv_iload_n hx hb dX12_order_76 rfl (lv_at hl 2 rfl) ?_
        refine va_iast hx hb hK hP hD hS 2 0 rfl rfl (at_full (by decide) h24 c9) dX12_order_77 (fun H locs hP hD hS => ?_)
        replace hP : va_P g.1 vwCl [(h0, .inr (12, mO q i L)), ((q 25), .inl (g.2 0, 30, .inl (upd a25 ((i 24).toNatClampNeg) cy))), ((q 26), .inl (g.2 0, 30, .inl (upd a26 ((i 24).toNatClampNeg) en))), ((q 27), .inl (g.2 0, 30, .inl a27)), ((q 28), .inl (g.2 0, 30, .inl a28))] H := hP
        replace hD : va_D A [(h0, .inr (12, mO q i L)), ((q 25), .inl (g.2 0, 30, .inl (upd a25 ((i 24).toNatClampNeg) cy))), ((q 26), .inl (g.2 0, 30, .inl (upd a26 ((i 24).toNatClampNeg) en))), ((q 27), .inl (g.2 0, 30, .inl a27)), ((q 28), .inl (g.2 0, 30, .inl a28))] := hD
        refine lv_aload_n hx hb dX12_order_78 rfl (lv_at hl 0 rfl) ?_
        refine va_get (D := g.1) (ci := 12) (v := .ref (q 27)) (C := RX12) (T := TX12) (N := 66) hx hb hts hw_X12_order_X12 hown hK hP 0 rfl rfl 27 (by decide) (hts (.fieldLink RX12 65 "OilPushModel" "orderD" "[I") (List.mem_of_getElem? (i := 5) rfl)) (fun _ h => h) rfl dX12_order_79 ?_
        refine lv_aload_n hx hb dX12_order_82 rfl (lv_at hl 0 rfl) ?_
        refine va_get (D := g.1) (ci := 12) (v := .int (i 24)) (C := RX12) (T := TX12) (N := 66) hx hb hts hw_X12_order_X12 hown hK hP 0 rfl rfl 24 (by decide) (hts (.fieldLink RX12 221 "OilPushModel" "orders" "I") (List.mem_of_getElem? (i := 2) rfl)) (fun _ h => h) rfl dX12_order_83 ?_
        refine lv_iload_n hx hb dX12_order_86 rfl (lv_at hl 3 rfl) ?_
        refine va_iast hx hb hK hP hD hS 3 0 rfl rfl (at_full (by decide) h24 c9) dX12_order_87 (fun H locs hP hD hS => ?_)
        replace hP : va_P g.1 vwCl [(h0, .inr (12, mO q i L)), ((q 25), .inl (g.2 0, 30, .inl (upd a25 ((i 24).toNatClampNeg) cy))), ((q 26), .inl (g.2 0, 30, .inl (upd a26 ((i 24).toNatClampNeg) en))), ((q 27), .inl (g.2 0, 30, .inl (upd a27 ((i 24).toNatClampNeg) d))), ((q 28), .inl (g.2 0, 30, .inl a28))] H := hP
        replace hD : va_D A [(h0, .inr (12, mO q i L)), ((q 25), .inl (g.2 0, 30, .inl (upd a25 ((i 24).toNatClampNeg) cy))), ((q 26), .inl (g.2 0, 30, .inl (upd a26 ((i 24).toNatClampNeg) en))), ((q 27), .inl (g.2 0, 30, .inl (upd a27 ((i 24).toNatClampNeg) d))), ((q 28), .inl (g.2 0, 30, .inl a28))] := hD
        refine lv_aload_n hx hb dX12_order_88 rfl (lv_at hl 0 rfl) ?_
        refine va_get (D := g.1) (ci := 12) (v := .ref (q 28)) (C := RX12) (T := TX12) (N := 66) hx hb hts hw_X12_order_X12 hown hK hP 0 rfl rfl 28 (by decide) (hts (.fieldLink RX12 68 "OilPushModel" "orderV" "[I") (List.mem_of_getElem? (i := 6) rfl)) (fun _ h => h) rfl dX12_order_89 ?_
        refine lv_aload_n hx hb dX12_order_92 rfl (lv_at hl 0 rfl) ?_
        refine va_get (D := g.1) (ci := 12) (v := .int (i 24)) (C := RX12) (T := TX12) (N := 66) hx hb hts hw_X12_order_X12 hown hK hP 0 rfl rfl 24 (by decide) (hts (.fieldLink RX12 221 "OilPushModel" "orders" "I") (List.mem_of_getElem? (i := 2) rfl)) (fun _ h => h) rfl dX12_order_93 ?_
        refine lv_iload hx hb dX12_order_96 (lv_at hl 4 rfl) ?_
        refine va_iast hx hb hK hP hD hS 4 0 rfl rfl (at_full (by decide) h24 c9) dX12_order_98 (fun H locs hP hD hS => ?_)
        replace hP : va_P g.1 vwCl [(h0, .inr (12, mO q i L)), ((q 25), .inl (g.2 0, 30, .inl (upd a25 ((i 24).toNatClampNeg) cy))), ((q 26), .inl (g.2 0, 30, .inl (upd a26 ((i 24).toNatClampNeg) en))), ((q 27), .inl (g.2 0, 30, .inl (upd a27 ((i 24).toNatClampNeg) d))), ((q 28), .inl (g.2 0, 30, .inl (upd a28 ((i 24).toNatClampNeg) v)))] H := hP
        replace hD : va_D A [(h0, .inr (12, mO q i L)), ((q 25), .inl (g.2 0, 30, .inl (upd a25 ((i 24).toNatClampNeg) cy))), ((q 26), .inl (g.2 0, 30, .inl (upd a26 ((i 24).toNatClampNeg) en))), ((q 27), .inl (g.2 0, 30, .inl (upd a27 ((i 24).toNatClampNeg) d))), ((q 28), .inl (g.2 0, 30, .inl (upd a28 ((i 24).toNatClampNeg) v)))] := hD
        refine lv_aload_n hx hb dX12_order_99 rfl (lv_at hl 0 rfl) ?_
        refine lv_dup hx hb dX12_order_100 rfl ?_
        refine va_get (D := g.1) (ci := 12) (v := .int (i 24)) (C := RX12) (T := TX12) (N := 66) hx hb hts hw_X12_order_X12 hown hK hP 0 rfl rfl 24 (by decide) (hts (.fieldLink RX12 221 "OilPushModel" "orders" "I") (List.mem_of_getElem? (i := 2) rfl)) (fun _ h => h) rfl dX12_order_101 ?_
        refine lv_iconst (v := 1) hx hb dX12_order_104 (by decide) ?_
        refine lv_iadd hx hb dX12_order_105 ?_
        refine va_put (D := g.1) (ci := 12) (v := .int ((i 24) + 1)) (ty := .int) (C := RX12) (T := TX12) (N := 66) hx hb hts hw_X12_order_X12 tyX12 tyX12_ok nmX12 hown hK hP hD hS 0 rfl rfl 24 (by decide) (hts (.fieldLink RX12 221 "OilPushModel" "orders" "I") (List.mem_of_getElem? (i := 2) rfl)) (fun _ h => h) rfl (by decide +kernel) rfl rfl (Nat.le_of_ble_eq_true rfl) dX12_order_106 (fun H locs hP hD hS => ?_)
        replace hP : va_P g.1 vwCl [(h0, .inr (12, mO q (upd i 24 ((i 24) + 1)) L)), ((q 25), .inl (g.2 0, 30, .inl (upd a25 ((i 24).toNatClampNeg) cy))), ((q 26), .inl (g.2 0, 30, .inl (upd a26 ((i 24).toNatClampNeg) en))), ((q 27), .inl (g.2 0, 30, .inl (upd a27 ((i 24).toNatClampNeg) d))), ((q 28), .inl (g.2 0, 30, .inl (upd a28 ((i 24).toNatClampNeg) v)))] H := hP
        replace hD : va_D A [(h0, .inr (12, mO q (upd i 24 ((i 24) + 1)) L)), ((q 25), .inl (g.2 0, 30, .inl (upd a25 ((i 24).toNatClampNeg) cy))), ((q 26), .inl (g.2 0, 30, .inl (upd a26 ((i 24).toNatClampNeg) en))), ((q 27), .inl (g.2 0, 30, .inl (upd a27 ((i 24).toNatClampNeg) d))), ((q 28), .inl (g.2 0, 30, .inl (upd a28 ((i 24).toNatClampNeg) v)))] := hD
        refine lv_aload_n hx hb dX12_order_109 rfl (lv_at hl 0 rfl) ?_
        refine va_get (D := g.1) (ci := 12) (v := .int ((i 24) + 1)) (C := RX12) (T := TX12) (N := 66) hx hb hts hw_X12_order_X12 hown hK hP 0 rfl rfl 24 (by decide) (hts (.fieldLink RX12 221 "OilPushModel" "orders" "I") (List.mem_of_getElem? (i := 2) rfl)) (fun _ h => h) rfl dX12_order_110 ?_
        exact retI C hS (((i 24) + 1), (upd a25 ((i 24).toNatClampNeg) cy), (upd a26 ((i 24).toNatClampNeg) en), (upd a27 ((i 24).toNatClampNeg) d), (upd a28 ((i 24).toNatClampNeg) v)) ⟨(by simp only [so_r, so_n, if_pos h7, if_pos h24, if_pos h25, if_pos h27, if_neg (nc_n h7 c3), if_neg (nc_n h7 c6), if_neg (show ¬ r_c_within en 0 2 = 0 from fun e9 => c7 ((in_within en 0 2).trans e9)), if_neg (show ¬ r_c_within v 0 2 = 0 from fun e9 => c8 ((in_within v 0 2).trans e9)), if_pos (lt_full h24.2 c9), if_neg c9]), (by simp only [so_r, so_n, if_pos h7, if_pos h24, if_pos h25, if_pos h27, if_neg (nc_n h7 c3), if_neg (nc_n h7 c6), if_neg (show ¬ r_c_within en 0 2 = 0 from fun e9 => c7 ((in_within en 0 2).trans e9)), if_neg (show ¬ r_c_within v 0 2 = 0 from fun e9 => c8 ((in_within v 0 2).trans e9)), if_pos (lt_full h24.2 c9), if_neg c9]), (full_inc (n := 30) (by decide) h24 c9 (by decide)), (RI.upd h25 (noCyl_in h7 c3).1), (RI.upd h27 (noCyl_in h7 c6).1)⟩ hP hD (Nat.le_of_ble_eq_true rfl) (Nat.le_of_ble_eq_true rfl) dX12_order_113
      refine lv_bipush (v := -4) hx hb dX12_order_55 (by decide) ?_
      exact retI C hS ((i 24), a25, a26, a27, a28) ⟨(by simp only [so_r, so_n, if_pos h7, if_pos h24, if_pos h25, if_pos h27, if_neg (nc_n h7 c3), if_neg (nc_n h7 c6), if_neg (show ¬ r_c_within en 0 2 = 0 from fun e9 => c7 ((in_within en 0 2).trans e9)), if_neg (show ¬ r_c_within v 0 2 = 0 from fun e9 => c8 ((in_within v 0 2).trans e9)), if_neg (nlt_full c9), if_pos c9]), (by simp only [so_r, so_n, if_pos h7, if_pos h24, if_pos h25, if_pos h27, if_neg (nc_n h7 c3), if_neg (nc_n h7 c6), if_neg (show ¬ r_c_within en 0 2 = 0 from fun e9 => c7 ((in_within en 0 2).trans e9)), if_neg (show ¬ r_c_within v 0 2 = 0 from fun e9 => c8 ((in_within v 0 2).trans e9)), if_neg (nlt_full c9), if_pos c9]), h24, h25, h27⟩ hP hD (Nat.le_of_ble_eq_true rfl) (Nat.le_of_ble_eq_true rfl) dX12_order_57
    refine lv_bipush (v := -2) hx hb dX12_order_43 (by decide) ?_
    exact retI C hS ((i 24), a25, a26, a27, a28) ⟨(by simp only [so_r, so_n, if_pos h7, if_pos h24, if_pos h25, if_pos h27, if_neg (nc_n h7 c3), if_neg (nc_n h7 c6), if_neg (show ¬ r_c_within en 0 2 = 0 from fun e9 => c7 ((in_within en 0 2).trans e9)), if_pos (show r_c_within v 0 2 = 0 from (in_within v 0 2).symm.trans c8)]), (by simp only [so_r, so_n, if_pos h7, if_pos h24, if_pos h25, if_pos h27, if_neg (nc_n h7 c3), if_neg (nc_n h7 c6), if_neg (show ¬ r_c_within en 0 2 = 0 from fun e9 => c7 ((in_within en 0 2).trans e9)), if_pos (show r_c_within v 0 2 = 0 from (in_within v 0 2).symm.trans c8)]), h24, h25, h27⟩ hP hD (Nat.le_of_ble_eq_true rfl) (Nat.le_of_ble_eq_true rfl) dX12_order_45
  refine lv_iconst (v := -1) hx hb dX12_order_16 (by decide) ?_
  exact retI C hS ((i 24), a25, a26, a27, a28) ⟨(by simp only [so_r, so_n, if_pos h7, if_pos h24, if_pos h25, if_pos h27, if_neg (nc_n h7 c3), if_pos (nc_y h7 c6)]), (by simp only [so_r, so_n, if_pos h7, if_pos h24, if_pos h25, if_pos h27, if_neg (nc_n h7 c3), if_pos (nc_y h7 c6)]), h24, h25, h27⟩ hP hD (Nat.le_of_ble_eq_true rfl) (Nat.le_of_ble_eq_true rfl) dX12_order_17
theorem hw_X12_reading_X12 : ∀ w ∈ wsX120, w ∈ wsX12_reading := fun w h => List.mem_cons_of_mem _ (List.mem_append_right _ h)
set_option maxRecDepth 100000 in
set_option maxHeartbeats 4000000 in
theorem w_reading (l : Launch) (g : Gt) (h0 : Nat) (q : Nat → Nat) (i : Nat → Int32) (L : Nat → Int64) (a53 : Nat → Int32) (a54 : Nat → Int32) (a55 : Nat → Int32) (a9 : Nat → Int32) (a10 : Nat → Int32) (t : Int32) (cy : Int32) (x : Int32) (h7 : 0 ≤ (i 7).toInt ∧ (i 7).toInt ≤ 6) (h52 : 0 ≤ (i 52).toInt ∧ (i 52).toInt ≤ 20) (h54 : RI a54) : Ctr l g yX12_reading wsX12_reading ({ frames := 2, cells := 0, slots := 0, locals := 46 } : Room) [.ref h0, .int t, .int cy, .int x] [(h0, .inr (12, mO q i L)), ((q 53), .inl (g.2 0, 20, .inl a53)), ((q 54), .inl (g.2 0, 20, .inl a54)), ((q 55), .inl (g.2 0, 20, .inl a55)), ((q 9), .inl (g.2 0, 6, .inl a9)), ((q 10), .inl (g.2 0, 6, .inl a10))] (fun A => QI g A (fun r (u : Int32 × (Nat → Int32) × (Nat → Int32) × (Nat → Int32)) => (r = sr_r (i 7) (i 52) ((a9 (cy.toNatClampNeg)) * (a10 (cy.toNatClampNeg))) t cy x) ∧ (u.1 = sr_n (i 7) (i 52) ((a9 (cy.toNatClampNeg)) * (a10 (cy.toNatClampNeg))) t cy x) ∧ (0 ≤ (u.1).toInt ∧ (u.1).toInt ≤ 20) ∧ (RI u.2.2.1)) (fun (u : Int32 × (Nat → Int32) × (Nat → Int32) × (Nat → Int32)) => [(h0, .inr (12, mO q (upd i 52 u.1) L)), ((q 53), .inl (g.2 0, 20, .inl u.2.1)), ((q 54), .inl (g.2 0, 20, .inl u.2.2.1)), ((q 55), .inl (g.2 0, 20, .inl u.2.2.2)), ((q 9), .inl (g.2 0, 6, .inl a9)), ((q 10), .inl (g.2 0, 6, .inl a10))])) := by
  refine Ctr.of (cc := cX12_reading) (maxL := 4) (ret := (some .int)) (by decide) rfl (Nat.le_of_ble_eq_true rfl) ?_
  intro p e s m below meth c A ls H C hP hD hA hS hl
  obtain ⟨hx, hb, hr, hts, hown, hlocks, hml, hin, hKN⟩ := id C
  have hK := hKN.1
  have hN := hKN.2
  have F : CallFix p m c cX12_reading 4 s _ wsX12_reading yX12_reading.cls := ⟨hx, hb, hml, hown, hts⟩
  have hl : lv_has ls 4 [(0, .ref h0), (1, .int t), (2, .int cy), (3, .int x)] := hl
  refine lv_aload_n hx hb dX12_reading_0 rfl (lv_at hl 0 rfl) ?_
  refine lv_iload_n hx hb dX12_reading_1 rfl (lv_at hl 2 rfl) ?_
  refine kI (rnV (As := [.int cy]) (rest := []) (Cn := RX12) C (g_noCylinder l g h0 q i L cy) 1 gX12_reading_X12_noCylinder rfl (by decide +kernel) ⟨(Nat.le_of_ble_eq_true rfl), (Nat.le_of_ble_eq_true rfl)⟩ hP (k := 0) (ci := 12) rfl rfl rfl rfl hl.1 rfl (Nat.le_of_ble_eq_true rfl) dX12_reading_2 ⟨(Nat.le_of_ble_eq_true rfl), (Nat.le_of_ble_eq_true rfl)⟩) (spM0 [true, false, false, false, false, false] hP hD rfl) hA hS (fun r1 u2 H locs hw hP hD hS => ?_)
  have hre := hw
  replace hP : va_P g.1 vwCl [(h0, .inr (12, mO q i L)), ((q 53), .inl (g.2 0, 20, .inl a53)), ((q 54), .inl (g.2 0, 20, .inl a54)), ((q 55), .inl (g.2 0, 20, .inl a55)), ((q 9), .inl (g.2 0, 6, .inl a9)), ((q 10), .inl (g.2 0, 6, .inl a10))] H := hP
  replace hD : va_D A [(h0, .inr (12, mO q i L)), ((q 53), .inl (g.2 0, 20, .inl a53)), ((q 54), .inl (g.2 0, 20, .inl a54)), ((q 55), .inl (g.2 0, 20, .inl a55)), ((q 9), .inl (g.2 0, 6, .inl a9)), ((q 10), .inl (g.2 0, 6, .inl a10))] := hD
  refine nx_i (v := (r_g_noCylinder i cy)) hre ?_
  refine lv_if_eq (tgt := 10) hx hb dX12_reading_5 (by decide) (fun c3 => ?_) (fun c3 => ?_)
  · refine lv_iload_n hx hb dX12_reading_10 rfl (lv_at hl 1 rfl) ?_
    refine lv_i2l hx hb dX12_reading_11 rfl ?_
    refine lv_lconst (v := 0) hx hb dX12_reading_12 (by decide) ?_
    refine lv_ldc2 (v := 200) hx hb hown (hts (.constantLong RX12 273 (200)) (List.mem_of_getElem? (i := 1) rfl)) dX12_reading_13 ?_
    refine pureIS (As := [.long (Int32.toInt64 t), .long 0, .long 200]) (rest := []) F (c_in l (Int32.toInt64 t) 0 200) 3 gX12_reading_X12_in rfl (by decide +kernel) rfl rfl ⟨(Nat.le_of_ble_eq_true rfl), (Nat.le_of_ble_eq_true rfl)⟩ (Nat.le_of_ble_eq_true rfl) (Nat.le_of_ble_eq_true rfl) rfl hl.1 rfl (Nat.le_of_ble_eq_true rfl) dX12_reading_16 ?_
    refine lv_if_eq (tgt := 37) hx hb dX12_reading_19 (by decide) (fun c4 => ?_) (fun c4 => ?_)
    · refine lv_bipush (v := -2) hx hb dX12_reading_37 (by decide) ?_
      exact retI C hS ((i 52), a53, a54, a55) ⟨(by simp only [sr_r, sr_n, if_pos h7, if_pos h52, if_pos h54, if_neg (nc_n h7 c3), if_pos (show r_c_within t 0 200 = 0 from (in_within t 0 200).symm.trans c4)]), (by simp only [sr_r, sr_n, if_pos h7, if_pos h52, if_pos h54, if_neg (nc_n h7 c3), if_pos (show r_c_within t 0 200 = 0 from (in_within t 0 200).symm.trans c4)]), h52, h54⟩ hP hD (Nat.le_of_ble_eq_true rfl) (Nat.le_of_ble_eq_true rfl) dX12_reading_39
    refine lv_iload_n hx hb dX12_reading_22 rfl (lv_at hl 3 rfl) ?_
    refine lv_i2l hx hb dX12_reading_23 rfl ?_
    refine lv_lconst (v := 0) hx hb dX12_reading_24 (by decide) ?_
    refine lv_aload_n hx hb dX12_reading_25 rfl (lv_at hl 0 rfl) ?_
    refine lv_iload_n hx hb dX12_reading_26 rfl (lv_at hl 2 rfl) ?_
    refine kI (rnV (As := [.int cy]) (rest := [.long 0, .long (Int32.toInt64 x)]) (Cn := RX12) C (g_room l g h0 q i L a9 a10 cy (noCyl_in h7 c3).1) 1 gX12_reading_X12_room rfl (by decide +kernel) ⟨(Nat.le_of_ble_eq_true rfl), (Nat.le_of_ble_eq_true rfl)⟩ hP (k := 0) (ci := 12) rfl rfl rfl rfl hl.1 rfl (Nat.le_of_ble_eq_true rfl) dX12_reading_27 ⟨(Nat.le_of_ble_eq_true rfl), (Nat.le_of_ble_eq_true rfl)⟩) (spM0 [true, false, false, false, true, true] hP hD rfl) hA hS (fun r5 u6 H locs hw hP hD hS => ?_)
    have hre := hw
    replace hP : va_P g.1 vwCl [(h0, .inr (12, mO q i L)), ((q 53), .inl (g.2 0, 20, .inl a53)), ((q 54), .inl (g.2 0, 20, .inl a54)), ((q 55), .inl (g.2 0, 20, .inl a55)), ((q 9), .inl (g.2 0, 6, .inl a9)), ((q 10), .inl (g.2 0, 6, .inl a10))] H := hP
    replace hD : va_D A [(h0, .inr (12, mO q i L)), ((q 53), .inl (g.2 0, 20, .inl a53)), ((q 54), .inl (g.2 0, 20, .inl a54)), ((q 55), .inl (g.2 0, 20, .inl a55)), ((q 9), .inl (g.2 0, 6, .inl a9)), ((q 10), .inl (g.2 0, 6, .inl a10))] := hD
    refine nx_i (v := ((a9 (cy.toNatClampNeg)) * (a10 (cy.toNatClampNeg)))) hre ?_
    refine lv_i2l hx hb dX12_reading_30 rfl ?_
    refine pureIS (As := [.long (Int32.toInt64 x), .long 0, .long (Int32.toInt64 ((a9 (cy.toNatClampNeg)) * (a10 (cy.toNatClampNeg))))]) (rest := []) F (c_in l (Int32.toInt64 x) 0 (Int32.toInt64 ((a9 (cy.toNatClampNeg)) * (a10 (cy.toNatClampNeg))))) 3 gX12_reading_X12_in rfl (by decide +kernel) rfl rfl ⟨(Nat.le_of_ble_eq_true rfl), (Nat.le_of_ble_eq_true rfl)⟩ (Nat.le_of_ble_eq_true rfl) (Nat.le_of_ble_eq_true rfl) rfl hl.1 rfl (Nat.le_of_ble_eq_true rfl) dX12_reading_31 ?_
    refine lv_if_ne (tgt := 40) hx hb dX12_reading_34 (by decide) (fun c7 => ?_) (fun c7 => ?_)
    · refine lv_aload_n hx hb dX12_reading_40 rfl (lv_at hl 0 rfl) ?_
      refine va_get (D := g.1) (ci := 12) (v := .int (i 52)) (C := RX12) (T := TX12) (N := 66) hx hb hts hw_X12_reading_X12 hown hK hP 0 rfl rfl 52 (by decide) (hts (.fieldLink RX12 291 "OilPushModel" "readings" "I") (List.mem_of_getElem? (i := 2) rfl)) (fun _ h => h) rfl dX12_reading_41 ?_
      refine lv_bipush (v := 20) hx hb dX12_reading_44 (by decide) ?_
      refine lv_icmp_ne (tgt := 52) hx hb dX12_reading_46 (by decide) (fun c8 => ?_) (fun c8 => ?_)
      · refine lv_aload_n hx hb dX12_reading_52 rfl (lv_at hl 0 rfl) ?_
        refine va_get (D := g.1) (ci := 12) (v := .ref (q 53)) (C := RX12) (T := TX12) (N := 66) hx hb hts hw_X12_reading_X12 hown hK hP 0 rfl rfl 53 (by decide) (hts (.fieldLink RX12 95 "OilPushModel" "readT" "[I") (List.mem_of_getElem? (i := 3) rfl)) (fun _ h => h) rfl dX12_reading_53 ?_
        refine lv_aload_n hx hb dX12_reading_56 rfl (lv_at hl 0 rfl) ?_
        refine va_get (D := g.1) (ci := 12) (v := .int (i 52)) (C := RX12) (T := TX12) (N := 66) hx hb hts hw_X12_reading_X12 hown hK hP 0 rfl rfl 52 (by decide) (hts (.fieldLink RX12 291 "OilPushModel" "readings" "I") (List.mem_of_getElem? (i := 2) rfl)) (fun _ h => h) rfl dX12_reading_57 ?_
        refine lv_iload_n hx hb dX12_reading_60 rfl (lv_at hl 1 rfl) ?_
        refine va_iast hx hb hK hP hD hS 1 0 rfl rfl (at_full (by decide) h52 c8) dX12_reading_61 (fun H locs hP hD hS => ?_)
        replace hP : va_P g.1 vwCl [(h0, .inr (12, mO q i L)), ((q 53), .inl (g.2 0, 20, .inl (upd a53 ((i 52).toNatClampNeg) t))), ((q 54), .inl (g.2 0, 20, .inl a54)), ((q 55), .inl (g.2 0, 20, .inl a55)), ((q 9), .inl (g.2 0, 6, .inl a9)), ((q 10), .inl (g.2 0, 6, .inl a10))] H := hP
        replace hD : va_D A [(h0, .inr (12, mO q i L)), ((q 53), .inl (g.2 0, 20, .inl (upd a53 ((i 52).toNatClampNeg) t))), ((q 54), .inl (g.2 0, 20, .inl a54)), ((q 55), .inl (g.2 0, 20, .inl a55)), ((q 9), .inl (g.2 0, 6, .inl a9)), ((q 10), .inl (g.2 0, 6, .inl a10))] := hD
        refine lv_aload_n hx hb dX12_reading_62 rfl (lv_at hl 0 rfl) ?_
        refine va_get (D := g.1) (ci := 12) (v := .ref (q 54)) (C := RX12) (T := TX12) (N := 66) hx hb hts hw_X12_reading_X12 hown hK hP 0 rfl rfl 54 (by decide) (hts (.fieldLink RX12 98 "OilPushModel" "readC" "[I") (List.mem_of_getElem? (i := 4) rfl)) (fun _ h => h) rfl dX12_reading_63 ?_
        refine lv_aload_n hx hb dX12_reading_66 rfl (lv_at hl 0 rfl) ?_
        refine va_get (D := g.1) (ci := 12) (v := .int (i 52)) (C := RX12) (T := TX12) (N := 66) hx hb hts hw_X12_reading_X12 hown hK hP 0 rfl rfl 52 (by decide) (hts (.fieldLink RX12 291 "OilPushModel" "readings" "I") (List.mem_of_getElem? (i := 2) rfl)) (fun _ h => h) rfl dX12_reading_67 ?_
        refine lv_iload_n hx hb dX12_reading_70 rfl (lv_at hl 2 rfl) ?_
        refine va_iast hx hb hK hP hD hS 2 0 rfl rfl (at_full (by decide) h52 c8) dX12_reading_71 (fun H locs hP hD hS => ?_)
        replace hP : va_P g.1 vwCl [(h0, .inr (12, mO q i L)), ((q 53), .inl (g.2 0, 20, .inl (upd a53 ((i 52).toNatClampNeg) t))), ((q 54), .inl (g.2 0, 20, .inl (upd a54 ((i 52).toNatClampNeg) cy))), ((q 55), .inl (g.2 0, 20, .inl a55)), ((q 9), .inl (g.2 0, 6, .inl a9)), ((q 10), .inl (g.2 0, 6, .inl a10))] H := hP
        replace hD : va_D A [(h0, .inr (12, mO q i L)), ((q 53), .inl (g.2 0, 20, .inl (upd a53 ((i 52).toNatClampNeg) t))), ((q 54), .inl (g.2 0, 20, .inl (upd a54 ((i 52).toNatClampNeg) cy))), ((q 55), .inl (g.2 0, 20, .inl a55)), ((q 9), .inl (g.2 0, 6, .inl a9)), ((q 10), .inl (g.2 0, 6, .inl a10))] := hD
        refine lv_aload_n hx hb dX12_reading_72 rfl (lv_at hl 0 rfl) ?_
        refine va_get (D := g.1) (ci := 12) (v := .ref (q 55)) (C := RX12) (T := TX12) (N := 66) hx hb hts hw_X12_reading_X12 hown hK hP 0 rfl rfl 55 (by decide) (hts (.fieldLink RX12 101 "OilPushModel" "readX" "[I") (List.mem_of_getElem? (i := 5) rfl)) (fun _ h => h) rfl dX12_reading_73 ?_
        refine lv_aload_n hx hb dX12_reading_76 rfl (lv_at hl 0 rfl) ?_
        refine va_get (D := g.1) (ci := 12) (v := .int (i 52)) (C := RX12) (T := TX12) (N := 66) hx hb hts hw_X12_reading_X12 hown hK hP 0 rfl rfl 52 (by decide) (hts (.fieldLink RX12 291 "OilPushModel" "readings" "I") (List.mem_of_getElem? (i := 2) rfl)) (fun _ h => h) rfl dX12_reading_77 ?_
        refine lv_iload_n hx hb dX12_reading_80 rfl (lv_at hl 3 rfl) ?_
        refine va_iast hx hb hK hP hD hS 3 0 rfl rfl (at_full (by decide) h52 c8) dX12_reading_81 (fun H locs hP hD hS => ?_)
        replace hP : va_P g.1 vwCl [(h0, .inr (12, mO q i L)), ((q 53), .inl (g.2 0, 20, .inl (upd a53 ((i 52).toNatClampNeg) t))), ((q 54), .inl (g.2 0, 20, .inl (upd a54 ((i 52).toNatClampNeg) cy))), ((q 55), .inl (g.2 0, 20, .inl (upd a55 ((i 52).toNatClampNeg) x))), ((q 9), .inl (g.2 0, 6, .inl a9)), ((q 10), .inl (g.2 0, 6, .inl a10))] H := hP
        replace hD : va_D A [(h0, .inr (12, mO q i L)), ((q 53), .inl (g.2 0, 20, .inl (upd a53 ((i 52).toNatClampNeg) t))), ((q 54), .inl (g.2 0, 20, .inl (upd a54 ((i 52).toNatClampNeg) cy))), ((q 55), .inl (g.2 0, 20, .inl (upd a55 ((i 52).toNatClampNeg) x))), ((q 9), .inl (g.2 0, 6, .inl a9)), ((q 10), .inl (g.2 0, 6, .inl a10))] := hD
        refine lv_aload_n hx hb dX12_reading_82 rfl (lv_at hl 0 rfl) ?_
        refine lv_dup hx hb dX12_reading_83 rfl ?_
        refine va_get (D := g.1) (ci := 12) (v := .int (i 52)) (C := RX12) (T := TX12) (N := 66) hx hb hts hw_X12_reading_X12 hown hK hP 0 rfl rfl 52 (by decide) (hts (.fieldLink RX12 291 "OilPushModel" "readings" "I") (List.mem_of_getElem? (i := 2) rfl)) (fun _ h => h) rfl dX12_reading_84 ?_
        refine lv_iconst (v := 1) hx hb dX12_reading_87 (by decide) ?_
        refine lv_iadd hx hb dX12_reading_88 ?_
        refine va_put (D := g.1) (ci := 12) (v := .int ((i 52) + 1)) (ty := .int) (C := RX12) (T := TX12) (N := 66) hx hb hts hw_X12_reading_X12 tyX12 tyX12_ok nmX12 hown hK hP hD hS 0 rfl rfl 52 (by decide) (hts (.fieldLink RX12 291 "OilPushModel" "readings" "I") (List.mem_of_getElem? (i := 2) rfl)) (fun _ h => h) rfl (by decide +kernel) rfl rfl (Nat.le_of_ble_eq_true rfl) dX12_reading_89 (fun H locs hP hD hS => ?_)
        replace hP : va_P g.1 vwCl [(h0, .inr (12, mO q (upd i 52 ((i 52) + 1)) L)), ((q 53), .inl (g.2 0, 20, .inl (upd a53 ((i 52).toNatClampNeg) t))), ((q 54), .inl (g.2 0, 20, .inl (upd a54 ((i 52).toNatClampNeg) cy))), ((q 55), .inl (g.2 0, 20, .inl (upd a55 ((i 52).toNatClampNeg) x))), ((q 9), .inl (g.2 0, 6, .inl a9)), ((q 10), .inl (g.2 0, 6, .inl a10))] H := hP
        replace hD : va_D A [(h0, .inr (12, mO q (upd i 52 ((i 52) + 1)) L)), ((q 53), .inl (g.2 0, 20, .inl (upd a53 ((i 52).toNatClampNeg) t))), ((q 54), .inl (g.2 0, 20, .inl (upd a54 ((i 52).toNatClampNeg) cy))), ((q 55), .inl (g.2 0, 20, .inl (upd a55 ((i 52).toNatClampNeg) x))), ((q 9), .inl (g.2 0, 6, .inl a9)), ((q 10), .inl (g.2 0, 6, .inl a10))] := hD
        refine lv_aload_n hx hb dX12_reading_92 rfl (lv_at hl 0 rfl) ?_
        refine va_get (D := g.1) (ci := 12) (v := .int ((i 52) + 1)) (C := RX12) (T := TX12) (N := 66) hx hb hts hw_X12_reading_X12 hown hK hP 0 rfl rfl 52 (by decide) (hts (.fieldLink RX12 291 "OilPushModel" "readings" "I") (List.mem_of_getElem? (i := 2) rfl)) (fun _ h => h) rfl dX12_reading_93 ?_
        exact retI C hS (((i 52) + 1), (upd a53 ((i 52).toNatClampNeg) t), (upd a54 ((i 52).toNatClampNeg) cy), (upd a55 ((i 52).toNatClampNeg) x)) ⟨(by simp only [sr_r, sr_n, if_pos h7, if_pos h52, if_pos h54, if_neg (nc_n h7 c3), if_neg (show ¬ r_c_within t 0 200 = 0 from fun e9 => c4 ((in_within t 0 200).trans e9)), if_neg (show ¬ r_c_within x 0 ((a9 (cy.toNatClampNeg)) * (a10 (cy.toNatClampNeg))) = 0 from fun e9 => c7 ((in_within x 0 ((a9 (cy.toNatClampNeg)) * (a10 (cy.toNatClampNeg)))).trans e9)), if_pos (lt_full h52.2 c8), if_neg c8]), (by simp only [sr_r, sr_n, if_pos h7, if_pos h52, if_pos h54, if_neg (nc_n h7 c3), if_neg (show ¬ r_c_within t 0 200 = 0 from fun e9 => c4 ((in_within t 0 200).trans e9)), if_neg (show ¬ r_c_within x 0 ((a9 (cy.toNatClampNeg)) * (a10 (cy.toNatClampNeg))) = 0 from fun e9 => c7 ((in_within x 0 ((a9 (cy.toNatClampNeg)) * (a10 (cy.toNatClampNeg)))).trans e9)), if_pos (lt_full h52.2 c8), if_neg c8]), (full_inc (n := 20) (by decide) h52 c8 (by decide)), (RI.upd h54 (noCyl_in h7 c3).1)⟩ hP hD (Nat.le_of_ble_eq_true rfl) (Nat.le_of_ble_eq_true rfl) dX12_reading_96
      refine lv_bipush (v := -4) hx hb dX12_reading_49 (by decide) ?_
      exact retI C hS ((i 52), a53, a54, a55) ⟨(by simp only [sr_r, sr_n, if_pos h7, if_pos h52, if_pos h54, if_neg (nc_n h7 c3), if_neg (show ¬ r_c_within t 0 200 = 0 from fun e9 => c4 ((in_within t 0 200).trans e9)), if_neg (show ¬ r_c_within x 0 ((a9 (cy.toNatClampNeg)) * (a10 (cy.toNatClampNeg))) = 0 from fun e9 => c7 ((in_within x 0 ((a9 (cy.toNatClampNeg)) * (a10 (cy.toNatClampNeg)))).trans e9)), if_neg (nlt_full c8), if_pos c8]), (by simp only [sr_r, sr_n, if_pos h7, if_pos h52, if_pos h54, if_neg (nc_n h7 c3), if_neg (show ¬ r_c_within t 0 200 = 0 from fun e9 => c4 ((in_within t 0 200).trans e9)), if_neg (show ¬ r_c_within x 0 ((a9 (cy.toNatClampNeg)) * (a10 (cy.toNatClampNeg))) = 0 from fun e9 => c7 ((in_within x 0 ((a9 (cy.toNatClampNeg)) * (a10 (cy.toNatClampNeg)))).trans e9)), if_neg (nlt_full c8), if_pos c8]), h52, h54⟩ hP hD (Nat.le_of_ble_eq_true rfl) (Nat.le_of_ble_eq_true rfl) dX12_reading_51
    refine lv_bipush (v := -2) hx hb dX12_reading_37 (by decide) ?_
    exact retI C hS ((i 52), a53, a54, a55) ⟨(by simp only [sr_r, sr_n, if_pos h7, if_pos h52, if_pos h54, if_neg (nc_n h7 c3), if_neg (show ¬ r_c_within t 0 200 = 0 from fun e9 => c4 ((in_within t 0 200).trans e9)), if_pos (show r_c_within x 0 ((a9 (cy.toNatClampNeg)) * (a10 (cy.toNatClampNeg))) = 0 from (in_within x 0 ((a9 (cy.toNatClampNeg)) * (a10 (cy.toNatClampNeg)))).symm.trans c7)]), (by simp only [sr_r, sr_n, if_pos h7, if_pos h52, if_pos h54, if_neg (nc_n h7 c3), if_neg (show ¬ r_c_within t 0 200 = 0 from fun e9 => c4 ((in_within t 0 200).trans e9)), if_pos (show r_c_within x 0 ((a9 (cy.toNatClampNeg)) * (a10 (cy.toNatClampNeg))) = 0 from (in_within x 0 ((a9 (cy.toNatClampNeg)) * (a10 (cy.toNatClampNeg)))).symm.trans c7)]), h52, h54⟩ hP hD (Nat.le_of_ble_eq_true rfl) (Nat.le_of_ble_eq_true rfl) dX12_reading_39
  refine lv_iconst (v := -1) hx hb dX12_reading_8 (by decide) ?_
  exact retI C hS ((i 52), a53, a54, a55) ⟨(by simp only [sr_r, sr_n, if_pos h7, if_pos h52, if_pos h54, if_pos (nc_y h7 c3)]), (by simp only [sr_r, sr_n, if_pos h7, if_pos h52, if_pos h54, if_pos (nc_y h7 c3)]), h52, h54⟩ hP hD (Nat.le_of_ble_eq_true rfl) (Nat.le_of_ble_eq_true rfl) dX12_reading_9
theorem hw_X12_lose_X12 : ∀ w ∈ wsX120, w ∈ wsX12_lose := fun w h => List.mem_cons_of_mem _ (List.mem_append_right _ h)
set_option maxRecDepth 100000 in
set_option maxHeartbeats 4000000 in
theorem w_lose (l : Launch) (g : Gt) (h0 : Nat) (q : Nat → Nat) (i : Nat → Int32) (L : Nat → Int64) (a1 : Nat → Int32) (k : Int32) (hSZ : SZ a1) : Ctr l g yX12_lose wsX12_lose ({ frames := 2, cells := 0, slots := 0, locals := 45 } : Room) [.ref h0, .int k] [(h0, .inr (12, mO q i L)), ((q 1), .inl (g.2 0, 4, .inl a1))] (fun A => QI g A (fun r (u : (Nat → Int32)) => (SZ u)) (fun (u : (Nat → Int32)) => [(h0, .inr (12, mO q i L)), ((q 1), .inl (g.2 0, 4, .inl u))])) := by
  refine Ctr.of (cc := cX12_lose) (maxL := 3) (ret := (some .int)) (by decide) rfl (Nat.le_of_ble_eq_true rfl) ?_
  intro p e s m below meth c A ls H C hP hD hA hS hl
  obtain ⟨hx, hb, hr, hts, hown, hlocks, hml, hin, hKN⟩ := id C
  have hK := hKN.1
  have hN := hKN.2
  have F : CallFix p m c cX12_lose 3 s _ wsX12_lose yX12_lose.cls := ⟨hx, hb, hml, hown, hts⟩
  have hl : lv_has ls 3 [(0, .ref h0), (1, .int k)] := hl
  refine lv_iload_n hx hb dX12_lose_0 rfl (lv_at hl 1 rfl) ?_
  refine pureIS (As := [.int k]) (rest := []) F (c_noSheet l k) 1 gX12_lose_X12_noSheet rfl (by decide +kernel) rfl rfl ⟨(Nat.le_of_ble_eq_true rfl), (Nat.le_of_ble_eq_true rfl)⟩ (Nat.le_of_ble_eq_true rfl) (Nat.le_of_ble_eq_true rfl) rfl hl.1 rfl (Nat.le_of_ble_eq_true rfl) dX12_lose_1 ?_
  refine lv_if_eq (tgt := 9) hx hb dX12_lose_4 (by decide) (fun c1 => ?_) (fun c1 => ?_)
  · refine lv_aload_n hx hb dX12_lose_9 rfl (lv_at hl 0 rfl) ?_
    refine va_get (D := g.1) (ci := 12) (v := .ref (q 1)) (C := RX12) (T := TX12) (N := 66) hx hb hts hw_X12_lose_X12 hown hK hP 0 rfl rfl 1 (by decide) (hts (.fieldLink RX12 7 "OilPushModel" "sheetSize" "[I") (List.mem_of_getElem? (i := 1) rfl)) (fun _ h => h) rfl dX12_lose_10 ?_
    refine lv_iload_n hx hb dX12_lose_13 rfl (lv_at hl 1 rfl) ?_
    refine va_iald hx hb hK hP 1 0 rfl rfl (noSheet_in c1) dX12_lose_14 ?_
    refine lv_if_ge (tgt := 22) hx hb dX12_lose_15 (by decide) (fun c2 => ?_) (fun c2 => ?_)
    · refine lv_iconst (v := 1) hx hb dX12_lose_22 (by decide) ?_
      refine lv_istore_n (lv' := [(2, .int 1), (0, .ref h0), (1, .int k)]) hx hb dX12_lose_23 rfl hl (by decide) rfl (fun ls hl => ?_)
      refine lv_aload_n hx hb dX12_lose_24 rfl (lv_at hl 1 rfl) ?_
      refine va_get (D := g.1) (ci := 12) (v := .ref (q 1)) (C := RX12) (T := TX12) (N := 66) hx hb hts hw_X12_lose_X12 hown hK hP 0 rfl rfl 1 (by decide) (hts (.fieldLink RX12 7 "OilPushModel" "sheetSize" "[I") (List.mem_of_getElem? (i := 1) rfl)) (fun _ h => h) rfl dX12_lose_25 ?_
      refine lv_iload_n hx hb dX12_lose_28 rfl (lv_at hl 2 rfl) ?_
      refine lv_iconst (v := -1) hx hb dX12_lose_29 (by decide) ?_
      refine va_iast hx hb hK hP hD hS 1 0 rfl rfl (noSheet_in c1) dX12_lose_30 (fun H locs hP hD hS => ?_)
      replace hP : va_P g.1 vwCl [(h0, .inr (12, mO q i L)), ((q 1), .inl (g.2 0, 4, .inl (upd a1 (k.toNatClampNeg) (-1))))] H := hP
      replace hD : va_D A [(h0, .inr (12, mO q i L)), ((q 1), .inl (g.2 0, 4, .inl (upd a1 (k.toNatClampNeg) (-1))))] := hD
      refine lv_iload_n hx hb dX12_lose_31 rfl (lv_at hl 0 rfl) ?_
      exact retI C hS (upd a1 (k.toNatClampNeg) (-1)) (SZ_upd hSZ (by decide)) hP hD (Nat.le_of_ble_eq_true rfl) (Nat.le_of_ble_eq_true rfl) dX12_lose_32
    refine lv_iconst (v := 0) hx hb dX12_lose_18 (by decide) ?_
    refine lv_goto (tgt := 23) hx hb dX12_lose_19 (by decide) ?_
    refine lv_istore_n (lv' := [(2, .int 0), (0, .ref h0), (1, .int k)]) hx hb dX12_lose_23 rfl hl (by decide) rfl (fun ls hl => ?_)
    refine lv_aload_n hx hb dX12_lose_24 rfl (lv_at hl 1 rfl) ?_
    refine va_get (D := g.1) (ci := 12) (v := .ref (q 1)) (C := RX12) (T := TX12) (N := 66) hx hb hts hw_X12_lose_X12 hown hK hP 0 rfl rfl 1 (by decide) (hts (.fieldLink RX12 7 "OilPushModel" "sheetSize" "[I") (List.mem_of_getElem? (i := 1) rfl)) (fun _ h => h) rfl dX12_lose_25 ?_
    refine lv_iload_n hx hb dX12_lose_28 rfl (lv_at hl 2 rfl) ?_
    refine lv_iconst (v := -1) hx hb dX12_lose_29 (by decide) ?_
    refine va_iast hx hb hK hP hD hS 1 0 rfl rfl (noSheet_in c1) dX12_lose_30 (fun H locs hP hD hS => ?_)
    replace hP : va_P g.1 vwCl [(h0, .inr (12, mO q i L)), ((q 1), .inl (g.2 0, 4, .inl (upd a1 (k.toNatClampNeg) (-1))))] H := hP
    replace hD : va_D A [(h0, .inr (12, mO q i L)), ((q 1), .inl (g.2 0, 4, .inl (upd a1 (k.toNatClampNeg) (-1))))] := hD
    refine lv_iload_n hx hb dX12_lose_31 rfl (lv_at hl 0 rfl) ?_
    exact retI C hS (upd a1 (k.toNatClampNeg) (-1)) (SZ_upd hSZ (by decide)) hP hD (Nat.le_of_ble_eq_true rfl) (Nat.le_of_ble_eq_true rfl) dX12_lose_32
  refine lv_iconst (v := -1) hx hb dX12_lose_7 (by decide) ?_
  exact retI C hS a1 hSZ hP hD (Nat.le_of_ble_eq_true rfl) (Nat.le_of_ble_eq_true rfl) dX12_lose_8
