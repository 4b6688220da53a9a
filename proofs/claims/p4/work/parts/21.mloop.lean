theorem for_lt {b : Int32} {k : Nat} (hk : k ≤ b.toInt.toNat) (h : ¬ b ≤ nI k) : k + 1 ≤ b.toInt.toNat := by
  have h1 := Int32.toInt_lt b
  rw [Int32.le_iff_toInt_le, nI_toInt (by omega)] at h
  omega
theorem for_mu {b : Int32} {k : Nat} (hk : k ≤ b.toInt.toNat) (h : ¬ b ≤ nI k) : b.toInt.toNat - (k + 1) < b.toInt.toNat - k := by
  have := for_lt hk h
  omega
theorem for_end {b : Int32} {k : Nat} (hk : k ≤ b.toInt.toNat) (h : b ≤ nI k) : k = b.toInt.toNat := by
  have h1 := Int32.toInt_lt b
  rw [Int32.le_iff_toInt_le, nI_toInt (by omega)] at h
  omega
theorem for_in {b : Int32} {k n : Nat} (hk : k ≤ b.toInt.toNat) (h : ¬ b ≤ nI k) (hb : b.toInt ≤ n) (hn : n < 2 ^ 31) : vp_in (nI k) n := by
  have := for_lt hk h
  exact vp_in_nI (by omega) hn
def bd_lp_g_lastReading_4 (a53 : Nat → Int32) (k : Nat) (z : Int32) : Int32 := (if (a53 ((nI k).toNatClampNeg)) ≤ z then z else (a53 ((nI k).toNatClampNeg)))
def lp_g_lastReading_4 (a53 : Nat → Int32) : Nat → Int32
  | 0 => 0
  | k + 1 => bd_lp_g_lastReading_4 a53 k (lp_g_lastReading_4 a53 k)
theorem hg_X12_lastReading_X12 : ∀ w ∈ wsX120, w ∈ wsX12_lastReading := fun w h => List.mem_cons_of_mem _ (List.mem_append_right _ h)
set_option maxRecDepth 100000 in
set_option maxHeartbeats 4000000 in
theorem g_lastReading (l : Launch) (g : Gt) (h0 : Nat) (q : Nat → Nat) (i : Nat → Int32) (L : Nat → Int64) (a53 : Nat → Int32) (h52 : 0 ≤ (i 52).toInt ∧ (i 52).toInt ≤ 20) : Ctr l g yX12_lastReading wsX12_lastReading ({ frames := 0, cells := 0, slots := 0, locals := 0 } : Room) [.ref h0] [(h0, .inr (12, mO q i L)), ((q 53), .inl (g.2 0, 20, .inl a53))] (fun A => QI g A (fun r (_ : Unit) => r = (lp_g_lastReading_4 a53 ((i 52)).toInt.toNat)) (fun _u : Unit => [(h0, .inr (12, mO q i L)), ((q 53), .inl (g.2 0, 20, .inl a53))])) := by
  refine Ctr.of (cc := cX12_lastReading) (maxL := 3) (ret := (some .int)) (by decide) rfl (Nat.le_of_ble_eq_true rfl) ?_
  intro p e s m below meth c A ls H C hP hD hA hS hl
  obtain ⟨hx, hb, hr, hts, hown, hlocks, hml, hin, hKN⟩ := id C
  have hK := hKN.1
  have hN := hKN.2
  have F : CallFix p m c cX12_lastReading 3 s _ wsX12_lastReading yX12_lastReading.cls := ⟨hx, hb, hml, hown, hts⟩
  have hl : lv_has ls 3 [(0, .ref h0)] := hl
  refine lv_iconst (v := 0) hx hb dX12_lastReading_0 (by decide) ?_
  refine lv_istore_n (lv' := [(1, .int 0), (0, .ref h0)]) hx hb dX12_lastReading_1 rfl hl (by decide) rfl (fun ls hl => ?_)
  refine lv_iconst (v := 0) hx hb dX12_lastReading_2 (by decide) ?_
  refine lv_istore_n (lv' := [(2, .int 0), (1, .int 0), (0, .ref h0)]) hx hb dX12_lastReading_3 rfl hl (by decide) rfl (fun ls hl => ?_)
  refine W.loop (α := Nat) (P := fun kz ls H locs => kz ≤ ((i 52)).toInt.toNat ∧ lv_has ls 3 [(2, .int (nI kz)), (1, .int (lp_g_lastReading_4 a53 kz)), (0, .ref h0)] ∧ va_P g.1 vwCl [(h0, .inr (12, mO q i L)), ((q 53), .inl (g.2 0, 20, .inl a53))] H ∧ va_D A [(h0, .inr (12, mO q i L)), ((q 53), .inl (g.2 0, 20, .inl a53))] ∧ va_S A s.heap H locs) (μ := fun kz => ((i 52)).toInt.toNat - kz) 0 ⟨Nat.zero_le _, hl, hP, hD, hS⟩ (fun kz ls H locs hh ih => ?_)
  obtain ⟨hkn, hl, hP, hD, hS⟩ := hh
  refine lv_iload_n hx hb dX12_lastReading_4 rfl (lv_at hl 0 rfl) ?_
  refine lv_aload_n hx hb dX12_lastReading_5 rfl (lv_at hl 2 rfl) ?_
  refine va_get (D := g.1) (ci := 12) (v := .int (i 52)) (C := RX12) (T := TX12) (N := 66) hx hb hts hg_X12_lastReading_X12 hown hK hP 0 rfl rfl 52 (by decide) (hts (.fieldLink RX12 291 "OilPushModel" "readings" "I") (List.mem_of_getElem? (i := 1) rfl)) (fun _ h => h) rfl dX12_lastReading_6 ?_
  refine lv_icmp_ge (tgt := 39) hx hb dX12_lastReading_9 (by decide) (fun c1 => ?_) (fun c1 => ?_)
  · have hke := for_end hkn c1
    subst hke
    have hP : va_P g.1 vwCl [(h0, .inr (12, mO q i L)), ((q 53), .inl (g.2 0, 20, .inl a53))] H := hP
    have hD : va_D A [(h0, .inr (12, mO q i L)), ((q 53), .inl (g.2 0, 20, .inl a53))] := hD
    have hl : lv_has ls 3 [(2, .int (nI ((i 52)).toInt.toNat)), (1, .int (lp_g_lastReading_4 a53 ((i 52)).toInt.toNat)), (0, .ref h0)] := hl
    refine lv_iload_n hx hb dX12_lastReading_39 rfl (lv_at hl 1 rfl) ?_
    exact retI C hS () rfl (hP.pick [0, 1] rfl) (hD.sub [0, 1] rfl rfl) (Nat.le_of_ble_eq_true rfl) (Nat.le_of_ble_eq_true rfl) dX12_lastReading_40
  refine lv_aload_n hx hb dX12_lastReading_12 rfl (lv_at hl 2 rfl) ?_
  refine va_get (D := g.1) (ci := 12) (v := .ref (q 53)) (C := RX12) (T := TX12) (N := 66) hx hb hts hg_X12_lastReading_X12 hown hK hP 0 rfl rfl 53 (by decide) (hts (.fieldLink RX12 95 "OilPushModel" "readT" "[I") (List.mem_of_getElem? (i := 2) rfl)) (fun _ h => h) rfl dX12_lastReading_13 ?_
  refine lv_iload_n hx hb dX12_lastReading_16 rfl (lv_at hl 0 rfl) ?_
  refine va_iald hx hb hK hP 1 0 rfl rfl (for_in hkn c1 h52.2 (by decide)) dX12_lastReading_17 ?_
  refine lv_iload_n hx hb dX12_lastReading_18 rfl (lv_at hl 1 rfl) ?_
  refine lv_icmp_le (tgt := 31) hx hb dX12_lastReading_19 (by decide) (fun c2 => ?_) (fun c2 => ?_)
  · refine lv_iload_n hx hb dX12_lastReading_31 rfl (lv_at hl 1 rfl) ?_
    refine lv_istore_n (lv' := [(1, .int (lp_g_lastReading_4 a53 kz)), (2, .int (nI kz)), (0, .ref h0)]) hx hb dX12_lastReading_32 rfl hl (by decide) rfl (fun ls hl => ?_)
    refine lv_iinc (v := ((nI kz) + 1)) (lv' := [(2, .int ((nI kz) + 1)), (1, .int (lp_g_lastReading_4 a53 kz)), (0, .ref h0)]) hx hb dX12_lastReading_33 hl (k := 1) rfl rfl (by decide) rfl (fun ls hl => ?_)
    refine lv_goto (tgt := 4) hx hb dX12_lastReading_36 (by decide) ?_
    have e8 : (lp_g_lastReading_4 a53 (kz + 1)) = (lp_g_lastReading_4 a53 kz) := by show bd_lp_g_lastReading_4 a53 kz (lp_g_lastReading_4 a53 kz) = _; unfold bd_lp_g_lastReading_4; rw [if_pos c2]
    rw [nI_1] at hl
    have hl : lv_has ls 3 [(2, .int (nI (kz + 1))), (1, .int (lp_g_lastReading_4 a53 (kz + 1))), (0, .ref h0)] := by rw [e8]; exact lv_sub hl [0, 1, 2] rfl
    have hP : va_P g.1 vwCl [(h0, .inr (12, mO q i L)), ((q 53), .inl (g.2 0, 20, .inl a53))] H := by exact hP.pick [0, 1] rfl
    have hD : va_D A [(h0, .inr (12, mO q i L)), ((q 53), .inl (g.2 0, 20, .inl a53))] := by exact hD.sub [0, 1] rfl rfl
    exact ih (kz + 1) ls H locs ⟨for_lt hkn c1, hl, hP, hD, hS⟩ (for_mu hkn c1)
  refine lv_aload_n hx hb dX12_lastReading_22 rfl (lv_at hl 2 rfl) ?_
  refine va_get (D := g.1) (ci := 12) (v := .ref (q 53)) (C := RX12) (T := TX12) (N := 66) hx hb hts hg_X12_lastReading_X12 hown hK hP 0 rfl rfl 53 (by decide) (hts (.fieldLink RX12 95 "OilPushModel" "readT" "[I") (List.mem_of_getElem? (i := 2) rfl)) (fun _ h => h) rfl dX12_lastReading_23 ?_
  refine lv_iload_n hx hb dX12_lastReading_26 rfl (lv_at hl 0 rfl) ?_
  refine va_iald hx hb hK hP 1 0 rfl rfl (for_in hkn c1 h52.2 (by decide)) dX12_lastReading_27 ?_
  refine lv_goto (tgt := 32) hx hb dX12_lastReading_28 (by decide) ?_
  refine lv_istore_n (lv' := [(1, .int (a53 ((nI kz).toNatClampNeg))), (2, .int (nI kz)), (0, .ref h0)]) hx hb dX12_lastReading_32 rfl hl (by decide) rfl (fun ls hl => ?_)
  refine lv_iinc (v := ((nI kz) + 1)) (lv' := [(2, .int ((nI kz) + 1)), (1, .int (a53 ((nI kz).toNatClampNeg))), (0, .ref h0)]) hx hb dX12_lastReading_33 hl (k := 1) rfl rfl (by decide) rfl (fun ls hl => ?_)
  refine lv_goto (tgt := 4) hx hb dX12_lastReading_36 (by decide) ?_
  have e8 : (lp_g_lastReading_4 a53 (kz + 1)) = (a53 ((nI kz).toNatClampNeg)) := by show bd_lp_g_lastReading_4 a53 kz (lp_g_lastReading_4 a53 kz) = _; unfold bd_lp_g_lastReading_4; rw [if_neg c2]
  rw [nI_1] at hl
  have hl : lv_has ls 3 [(2, .int (nI (kz + 1))), (1, .int (lp_g_lastReading_4 a53 (kz + 1))), (0, .ref h0)] := by rw [e8]; exact lv_sub hl [0, 1, 2] rfl
  have hP : va_P g.1 vwCl [(h0, .inr (12, mO q i L)), ((q 53), .inl (g.2 0, 20, .inl a53))] H := by exact hP.pick [0, 1] rfl
  have hD : va_D A [(h0, .inr (12, mO q i L)), ((q 53), .inl (g.2 0, 20, .inl a53))] := by exact hD.sub [0, 1] rfl rfl
  exact ih (kz + 1) ls H locs ⟨for_lt hkn c1, hl, hP, hD, hS⟩ (for_mu hkn c1)
def bd_lp_g_told_4 (a11 : Nat → Int32) (a9 : Nat → Int32) (a10 : Nat → Int32) (what : Int32) (k : Nat) (z : Int32) : Int32 := (if what = 4 then (if (a11 ((nI k).toNatClampNeg)) = ((a9 ((nI k).toNatClampNeg)) * (a10 ((nI k).toNatClampNeg))) then (z + 1) else (if what = 5 then (if (a11 ((nI k).toNatClampNeg)) = 0 then (z + 1) else (z + 0)) else (z + 0))) else (if what = 5 then (if (a11 ((nI k).toNatClampNeg)) = 0 then (z + 1) else (z + 0)) else (z + 0)))
def lp_g_told_4 (a11 : Nat → Int32) (a9 : Nat → Int32) (a10 : Nat → Int32) (what : Int32) : Nat → Int32
  | 0 => 0
  | k + 1 => bd_lp_g_told_4 a11 a9 a10 what k (lp_g_told_4 a11 a9 a10 what k)
theorem hg_X12_told_X12 : ∀ w ∈ wsX120, w ∈ wsX12_told := fun w h => List.mem_cons_of_mem _ (List.mem_append_right _ h)
def r_g_told (i : Nat → Int32) (a11 : Nat → Int32) (a9 : Nat → Int32) (a10 : Nat → Int32) (what : Int32) : Int32 := (if what = 0 then (i 7) else (if what = 1 then (i 24) else (if what = 2 then (i 52) else (if what = 3 then (i 30) else (if what = 4 then (lp_g_told_4 a11 a9 a10 what ((i 7)).toInt.toNat) else (if what = 5 then (lp_g_told_4 a11 a9 a10 what ((i 7)).toInt.toNat) else (-2)))))))
set_option maxRecDepth 100000 in
set_option maxHeartbeats 4000000 in
theorem g_told (l : Launch) (g : Gt) (h0 : Nat) (q : Nat → Nat) (i : Nat → Int32) (L : Nat → Int64) (a11 : Nat → Int32) (a9 : Nat → Int32) (a10 : Nat → Int32) (what : Int32) (h7 : 0 ≤ (i 7).toInt ∧ (i 7).toInt ≤ 6) : Ctr l g yX12_told wsX12_told ({ frames := 1, cells := 0, slots := 0, locals := 21 } : Room) [.ref h0, .int what] [(h0, .inr (12, mO q i L)), ((q 11), .inl (g.2 0, 6, .inl a11)), ((q 9), .inl (g.2 0, 6, .inl a9)), ((q 10), .inl (g.2 0, 6, .inl a10))] (fun A => QI g A (fun r (_ : Unit) => r = (r_g_told i a11 a9 a10 what)) (fun _u : Unit => [(h0, .inr (12, mO q i L)), ((q 11), .inl (g.2 0, 6, .inl a11)), ((q 9), .inl (g.2 0, 6, .inl a9)), ((q 10), .inl (g.2 0, 6, .inl a10))])) := by
  refine Ctr.of (cc := cX12_told) (maxL := 4) (ret := (some .int)) (by decide) rfl (Nat.le_of_ble_eq_true rfl) ?_
  intro p e s m below meth c A ls H C hP hD hA hS hl
  obtain ⟨hx, hb, hr, hts, hown, hlocks, hml, hin, hKN⟩ := id C
  have hK := hKN.1
  have hN := hKN.2
  have F : CallFix p m c cX12_told 4 s _ wsX12_told yX12_told.cls := ⟨hx, hb, hml, hown, hts⟩
  have hl : lv_has ls 4 [(0, .ref h0), (1, .int what)] := hl
  refine lv_iconst (v := 0) hx hb dX12_told_0 (by decide) ?_
  refine lv_istore_n (lv' := [(2, .int 0), (0, .ref h0), (1, .int what)]) hx hb dX12_told_1 rfl hl (by decide) rfl (fun ls hl => ?_)
  refine lv_iconst (v := 0) hx hb dX12_told_2 (by decide) ?_
  refine lv_istore_n (lv' := [(3, .int 0), (2, .int 0), (0, .ref h0), (1, .int what)]) hx hb dX12_told_3 rfl hl (by decide) rfl (fun ls hl => ?_)
  refine W.loop (α := Nat) (P := fun kz ls H locs => kz ≤ ((i 7)).toInt.toNat ∧ lv_has ls 4 [(3, .int (nI kz)), (2, .int (lp_g_told_4 a11 a9 a10 what kz)), (0, .ref h0), (1, .int what)] ∧ va_P g.1 vwCl [(h0, .inr (12, mO q i L)), ((q 11), .inl (g.2 0, 6, .inl a11)), ((q 9), .inl (g.2 0, 6, .inl a9)), ((q 10), .inl (g.2 0, 6, .inl a10))] H ∧ va_D A [(h0, .inr (12, mO q i L)), ((q 11), .inl (g.2 0, 6, .inl a11)), ((q 9), .inl (g.2 0, 6, .inl a9)), ((q 10), .inl (g.2 0, 6, .inl a10))] ∧ va_S A s.heap H locs) (μ := fun kz => ((i 7)).toInt.toNat - kz) 0 ⟨Nat.zero_le _, hl, hP, hD, hS⟩ (fun kz ls H locs hh ih => ?_)
  obtain ⟨hkn, hl, hP, hD, hS⟩ := hh
  refine lv_iload_n hx hb dX12_told_4 rfl (lv_at hl 0 rfl) ?_
  refine lv_aload_n hx hb dX12_told_5 rfl (lv_at hl 2 rfl) ?_
  refine va_get (D := g.1) (ci := 12) (v := .int (i 7)) (C := RX12) (T := TX12) (N := 66) hx hb hts hg_X12_told_X12 hown hK hP 0 rfl rfl 7 (by decide) (hts (.fieldLink RX12 179 "OilPushModel" "cylinders" "I") (List.mem_of_getElem? (i := 1) rfl)) (fun _ h => h) rfl dX12_told_6 ?_
  refine lv_icmp_ge (tgt := 59) hx hb dX12_told_9 (by decide) (fun c1 => ?_) (fun c1 => ?_)
  · have hke := for_end hkn c1
    subst hke
    have hP : va_P g.1 vwCl [(h0, .inr (12, mO q i L)), ((q 11), .inl (g.2 0, 6, .inl a11)), ((q 9), .inl (g.2 0, 6, .inl a9)), ((q 10), .inl (g.2 0, 6, .inl a10))] H := hP
    have hD : va_D A [(h0, .inr (12, mO q i L)), ((q 11), .inl (g.2 0, 6, .inl a11)), ((q 9), .inl (g.2 0, 6, .inl a9)), ((q 10), .inl (g.2 0, 6, .inl a10))] := hD
    have hl : lv_has ls 4 [(3, .int (nI ((i 7)).toInt.toNat)), (2, .int (lp_g_told_4 a11 a9 a10 what ((i 7)).toInt.toNat)), (0, .ref h0), (1, .int what)] := hl
    refine lv_iload_n hx hb dX12_told_59 rfl (lv_at hl 3 rfl) ?_
    by_cases w2 : what = 0
    · refine lv_tableIn (tgt := 100) (off := 40) hx hb dX12_told_60 (by rw [w2]; decide) (by rw [w2]; decide) (by rw [w2]; rfl) (by decide) ?_
      refine lv_aload_n hx hb dX12_told_100 rfl (lv_at hl 2 rfl) ?_
      refine va_get (D := g.1) (ci := 12) (v := .int (i 7)) (C := RX12) (T := TX12) (N := 66) hx hb hts hg_X12_told_X12 hown hK hP 0 rfl rfl 7 (by decide) (hts (.fieldLink RX12 179 "OilPushModel" "cylinders" "I") (List.mem_of_getElem? (i := 1) rfl)) (fun _ h => h) rfl dX12_told_101 ?_
      exact retI C hS () (by unfold r_g_told; rw [if_pos w2]) (hP.pick [0, 1, 2, 3] rfl) (hD.sub [0, 1, 2, 3] rfl rfl) (Nat.le_of_ble_eq_true rfl) (Nat.le_of_ble_eq_true rfl) dX12_told_104
    by_cases w3 : what = 1
    · refine lv_tableIn (tgt := 105) (off := 45) hx hb dX12_told_60 (by rw [w3]; decide) (by rw [w3]; decide) (by rw [w3]; rfl) (by decide) ?_
      refine lv_aload_n hx hb dX12_told_105 rfl (lv_at hl 2 rfl) ?_
      refine va_get (D := g.1) (ci := 12) (v := .int (i 24)) (C := RX12) (T := TX12) (N := 66) hx hb hts hg_X12_told_X12 hown hK hP 0 rfl rfl 24 (by decide) (hts (.fieldLink RX12 221 "OilPushModel" "orders" "I") (List.mem_of_getElem? (i := 3) rfl)) (fun _ h => h) rfl dX12_told_106 ?_
      exact retI C hS () (by unfold r_g_told; rw [if_neg w2, if_pos w3]) (hP.pick [0, 1, 2, 3] rfl) (hD.sub [0, 1, 2, 3] rfl rfl) (Nat.le_of_ble_eq_true rfl) (Nat.le_of_ble_eq_true rfl) dX12_told_109
    by_cases w4 : what = 2
    · refine lv_tableIn (tgt := 110) (off := 50) hx hb dX12_told_60 (by rw [w4]; decide) (by rw [w4]; decide) (by rw [w4]; rfl) (by decide) ?_
      refine lv_aload_n hx hb dX12_told_110 rfl (lv_at hl 2 rfl) ?_
      refine va_get (D := g.1) (ci := 12) (v := .int (i 52)) (C := RX12) (T := TX12) (N := 66) hx hb hts hg_X12_told_X12 hown hK hP 0 rfl rfl 52 (by decide) (hts (.fieldLink RX12 291 "OilPushModel" "readings" "I") (List.mem_of_getElem? (i := 4) rfl)) (fun _ h => h) rfl dX12_told_111 ?_
      exact retI C hS () (by unfold r_g_told; rw [if_neg w2, if_neg w3, if_pos w4]) (hP.pick [0, 1, 2, 3] rfl) (hD.sub [0, 1, 2, 3] rfl rfl) (Nat.le_of_ble_eq_true rfl) (Nat.le_of_ble_eq_true rfl) dX12_told_114
    by_cases w5 : what = 3
    · refine lv_tableIn (tgt := 115) (off := 55) hx hb dX12_told_60 (by rw [w5]; decide) (by rw [w5]; decide) (by rw [w5]; rfl) (by decide) ?_
      refine lv_aload_n hx hb dX12_told_115 rfl (lv_at hl 2 rfl) ?_
      refine va_get (D := g.1) (ci := 12) (v := .int (i 30)) (C := RX12) (T := TX12) (N := 66) hx hb hts hg_X12_told_X12 hown hK hP 0 rfl rfl 30 (by decide) (hts (.fieldLink RX12 136 "OilPushModel" "sinceStart" "I") (List.mem_of_getElem? (i := 5) rfl)) (fun _ h => h) rfl dX12_told_116 ?_
      exact retI C hS () (by unfold r_g_told; rw [if_neg w2, if_neg w3, if_neg w4, if_pos w5]) (hP.pick [0, 1, 2, 3] rfl) (hD.sub [0, 1, 2, 3] rfl rfl) (Nat.le_of_ble_eq_true rfl) (Nat.le_of_ble_eq_true rfl) dX12_told_119
    by_cases w6 : what = 4
    · refine lv_tableIn (tgt := 120) (off := 60) hx hb dX12_told_60 (by rw [w6]; decide) (by rw [w6]; decide) (by rw [w6]; rfl) (by decide) ?_
      refine lv_iload_n hx hb dX12_told_120 rfl (lv_at hl 1 rfl) ?_
      exact retI C hS () (by unfold r_g_told; rw [if_neg w2, if_neg w3, if_neg w4, if_neg w5, if_pos w6]) (hP.pick [0, 1, 2, 3] rfl) (hD.sub [0, 1, 2, 3] rfl rfl) (Nat.le_of_ble_eq_true rfl) (Nat.le_of_ble_eq_true rfl) dX12_told_121
    by_cases w7 : what = 5
    · refine lv_tableIn (tgt := 120) (off := 60) hx hb dX12_told_60 (by rw [w7]; decide) (by rw [w7]; decide) (by rw [w7]; rfl) (by decide) ?_
      refine lv_iload_n hx hb dX12_told_120 rfl (lv_at hl 1 rfl) ?_
      exact retI C hS () (by unfold r_g_told; rw [if_neg w2, if_neg w3, if_neg w4, if_neg w5, if_neg w6, if_pos w7]) (hP.pick [0, 1, 2, 3] rfl) (hD.sub [0, 1, 2, 3] rfl rfl) (Nat.le_of_ble_eq_true rfl) (Nat.le_of_ble_eq_true rfl) dX12_told_121
    refine lv_tableOut (tgt := 122) hx hb dX12_told_60 (sw5 w2 w3 w4 w5 w6 w7) (by decide) ?_
    refine lv_bipush (v := -2) hx hb dX12_told_122 (by decide) ?_
    exact retI C hS () (by unfold r_g_told; rw [if_neg w2, if_neg w3, if_neg w4, if_neg w5, if_neg w6, if_neg w7]) (hP.pick [0, 1, 2, 3] rfl) (hD.sub [0, 1, 2, 3] rfl rfl) (Nat.le_of_ble_eq_true rfl) (Nat.le_of_ble_eq_true rfl) dX12_told_124
  refine lv_iload_n hx hb dX12_told_12 rfl (lv_at hl 1 rfl) ?_
  refine lv_iload_n hx hb dX12_told_13 rfl (lv_at hl 3 rfl) ?_
  refine lv_iconst (v := 4) hx hb dX12_told_14 (by decide) ?_
  refine lv_icmp_ne (tgt := 32) hx hb dX12_told_15 (by decide) (fun c8 => ?_) (fun c8 => ?_)
  · refine lv_iload_n hx hb dX12_told_32 rfl (lv_at hl 3 rfl) ?_
    refine lv_iconst (v := 5) hx hb dX12_told_33 (by decide) ?_
    refine lv_icmp_ne (tgt := 50) hx hb dX12_told_34 (by decide) (fun c9 => ?_) (fun c9 => ?_)
    · refine lv_iconst (v := 0) hx hb dX12_told_50 (by decide) ?_
      refine lv_iadd hx hb dX12_told_51 ?_
      refine lv_istore_n (lv' := [(2, .int ((lp_g_told_4 a11 a9 a10 what kz) + 0)), (3, .int (nI kz)), (0, .ref h0), (1, .int what)]) hx hb dX12_told_52 rfl hl (by decide) rfl (fun ls hl => ?_)
      refine lv_iinc (v := ((nI kz) + 1)) (lv' := [(3, .int ((nI kz) + 1)), (2, .int ((lp_g_told_4 a11 a9 a10 what kz) + 0)), (0, .ref h0), (1, .int what)]) hx hb dX12_told_53 hl (k := 1) rfl rfl (by decide) rfl (fun ls hl => ?_)
      refine lv_goto (tgt := 4) hx hb dX12_told_56 (by decide) ?_
      have e8 : (lp_g_told_4 a11 a9 a10 what (kz + 1)) = ((lp_g_told_4 a11 a9 a10 what kz) + 0) := by show bd_lp_g_told_4 a11 a9 a10 what kz (lp_g_told_4 a11 a9 a10 what kz) = _; unfold bd_lp_g_told_4; rw [if_neg c8, if_neg c9]
      rw [nI_1] at hl
      have hl : lv_has ls 4 [(3, .int (nI (kz + 1))), (2, .int (lp_g_told_4 a11 a9 a10 what (kz + 1))), (0, .ref h0), (1, .int what)] := by rw [e8]; exact lv_sub hl [0, 1, 2, 3] rfl
      have hP : va_P g.1 vwCl [(h0, .inr (12, mO q i L)), ((q 11), .inl (g.2 0, 6, .inl a11)), ((q 9), .inl (g.2 0, 6, .inl a9)), ((q 10), .inl (g.2 0, 6, .inl a10))] H := by exact hP.pick [0, 1, 2, 3] rfl
      have hD : va_D A [(h0, .inr (12, mO q i L)), ((q 11), .inl (g.2 0, 6, .inl a11)), ((q 9), .inl (g.2 0, 6, .inl a9)), ((q 10), .inl (g.2 0, 6, .inl a10))] := by exact hD.sub [0, 1, 2, 3] rfl rfl
      exact ih (kz + 1) ls H locs ⟨for_lt hkn c1, hl, hP, hD, hS⟩ (for_mu hkn c1)
    refine lv_aload_n hx hb dX12_told_37 rfl (lv_at hl 2 rfl) ?_
    refine va_get (D := g.1) (ci := 12) (v := .ref (q 11)) (C := RX12) (T := TX12) (N := 66) hx hb hts hg_X12_told_X12 hown hK hP 0 rfl rfl 11 (by decide) (hts (.fieldLink RX12 31 "OilPushModel" "oil" "[I") (List.mem_of_getElem? (i := 2) rfl)) (fun _ h => h) rfl dX12_told_38 ?_
    refine lv_iload_n hx hb dX12_told_41 rfl (lv_at hl 0 rfl) ?_
    refine va_iald hx hb hK hP 1 0 rfl rfl (for_in hkn c1 h7.2 (by decide)) dX12_told_42 ?_
    refine lv_if_ne (tgt := 50) hx hb dX12_told_43 (by decide) (fun c10 => ?_) (fun c10 => ?_)
    · refine lv_iconst (v := 0) hx hb dX12_told_50 (by decide) ?_
      refine lv_iadd hx hb dX12_told_51 ?_
      refine lv_istore_n (lv' := [(2, .int ((lp_g_told_4 a11 a9 a10 what kz) + 0)), (3, .int (nI kz)), (0, .ref h0), (1, .int what)]) hx hb dX12_told_52 rfl hl (by decide) rfl (fun ls hl => ?_)
      refine lv_iinc (v := ((nI kz) + 1)) (lv' := [(3, .int ((nI kz) + 1)), (2, .int ((lp_g_told_4 a11 a9 a10 what kz) + 0)), (0, .ref h0), (1, .int what)]) hx hb dX12_told_53 hl (k := 1) rfl rfl (by decide) rfl (fun ls hl => ?_)
      refine lv_goto (tgt := 4) hx hb dX12_told_56 (by decide) ?_
      have e8 : (lp_g_told_4 a11 a9 a10 what (kz + 1)) = ((lp_g_told_4 a11 a9 a10 what kz) + 0) := by show bd_lp_g_told_4 a11 a9 a10 what kz (lp_g_told_4 a11 a9 a10 what kz) = _; unfold bd_lp_g_told_4; rw [if_neg c8, if_pos c9, if_neg c10]
      rw [nI_1] at hl
      have hl : lv_has ls 4 [(3, .int (nI (kz + 1))), (2, .int (lp_g_told_4 a11 a9 a10 what (kz + 1))), (0, .ref h0), (1, .int what)] := by rw [e8]; exact lv_sub hl [0, 1, 2, 3] rfl
      have hP : va_P g.1 vwCl [(h0, .inr (12, mO q i L)), ((q 11), .inl (g.2 0, 6, .inl a11)), ((q 9), .inl (g.2 0, 6, .inl a9)), ((q 10), .inl (g.2 0, 6, .inl a10))] H := by exact hP.pick [0, 1, 2, 3] rfl
      have hD : va_D A [(h0, .inr (12, mO q i L)), ((q 11), .inl (g.2 0, 6, .inl a11)), ((q 9), .inl (g.2 0, 6, .inl a9)), ((q 10), .inl (g.2 0, 6, .inl a10))] := by exact hD.sub [0, 1, 2, 3] rfl rfl
      exact ih (kz + 1) ls H locs ⟨for_lt hkn c1, hl, hP, hD, hS⟩ (for_mu hkn c1)
    refine lv_iconst (v := 1) hx hb dX12_told_46 (by decide) ?_
    refine lv_goto (tgt := 51) hx hb dX12_told_47 (by decide) ?_
    refine lv_iadd hx hb dX12_told_51 ?_
    refine lv_istore_n (lv' := [(2, .int ((lp_g_told_4 a11 a9 a10 what kz) + 1)), (3, .int (nI kz)), (0, .ref h0), (1, .int what)]) hx hb dX12_told_52 rfl hl (by decide) rfl (fun ls hl => ?_)
    refine lv_iinc (v := ((nI kz) + 1)) (lv' := [(3, .int ((nI kz) + 1)), (2, .int ((lp_g_told_4 a11 a9 a10 what kz) + 1)), (0, .ref h0), (1, .int what)]) hx hb dX12_told_53 hl (k := 1) rfl rfl (by decide) rfl (fun ls hl => ?_)
    refine lv_goto (tgt := 4) hx hb dX12_told_56 (by decide) ?_
    have e8 : (lp_g_told_4 a11 a9 a10 what (kz + 1)) = ((lp_g_told_4 a11 a9 a10 what kz) + 1) := by show bd_lp_g_told_4 a11 a9 a10 what kz (lp_g_told_4 a11 a9 a10 what kz) = _; unfold bd_lp_g_told_4; rw [if_neg c8, if_pos c9, if_pos c10]
    rw [nI_1] at hl
    have hl : lv_has ls 4 [(3, .int (nI (kz + 1))), (2, .int (lp_g_told_4 a11 a9 a10 what (kz + 1))), (0, .ref h0), (1, .int what)] := by rw [e8]; exact lv_sub hl [0, 1, 2, 3] rfl
    have hP : va_P g.1 vwCl [(h0, .inr (12, mO q i L)), ((q 11), .inl (g.2 0, 6, .inl a11)), ((q 9), .inl (g.2 0, 6, .inl a9)), ((q 10), .inl (g.2 0, 6, .inl a10))] H := by exact hP.pick [0, 1, 2, 3] rfl
    have hD : va_D A [(h0, .inr (12, mO q i L)), ((q 11), .inl (g.2 0, 6, .inl a11)), ((q 9), .inl (g.2 0, 6, .inl a9)), ((q 10), .inl (g.2 0, 6, .inl a10))] := by exact hD.sub [0, 1, 2, 3] rfl rfl
    exact ih (kz + 1) ls H locs ⟨for_lt hkn c1, hl, hP, hD, hS⟩ (for_mu hkn c1)
  refine lv_aload_n hx hb dX12_told_18 rfl (lv_at hl 2 rfl) ?_
  refine va_get (D := g.1) (ci := 12) (v := .ref (q 11)) (C := RX12) (T := TX12) (N := 66) hx hb hts hg_X12_told_X12 hown hK hP 0 rfl rfl 11 (by decide) (hts (.fieldLink RX12 31 "OilPushModel" "oil" "[I") (List.mem_of_getElem? (i := 2) rfl)) (fun _ h => h) rfl dX12_told_19 ?_
  refine lv_iload_n hx hb dX12_told_22 rfl (lv_at hl 0 rfl) ?_
  refine va_iald hx hb hK hP 1 0 rfl rfl (for_in hkn c1 h7.2 (by decide)) dX12_told_23 ?_
  refine lv_aload_n hx hb dX12_told_24 rfl (lv_at hl 2 rfl) ?_
  refine lv_iload_n hx hb dX12_told_25 rfl (lv_at hl 0 rfl) ?_
  refine callIV (As := [.int (nI kz)]) (rest := [.int (a11 ((nI kz).toNatClampNeg)), .int (lp_g_told_4 a11 a9 a10 what kz)]) (wr := [((q 11), .inl (g.2 0, 6, .inl a11))]) (Cn := RX12) C (g_room l g h0 q i L a9 a10 (nI kz) (for_in hkn c1 h7.2 (by decide))) 1 gX12_told_X12_room rfl (by decide +kernel) ⟨(Nat.le_of_ble_eq_true rfl), (Nat.le_of_ble_eq_true rfl)⟩ [0, 2, 3] [1] hP hD hA hS rfl rfl rfl rfl (by decide) (k := 0) (ci := 12) rfl rfl rfl rfl hl.1 rfl (Nat.le_of_ble_eq_true rfl) dX12_told_26 ⟨(Nat.le_of_ble_eq_true rfl), (Nat.le_of_ble_eq_true rfl)⟩ (fun r _u H locs hw hP hD hS => ?_)
  have hP : va_P g.1 vwCl [((q 11), .inl (g.2 0, 6, .inl a11)), (h0, .inr (12, mO q i L)), ((q 9), .inl (g.2 0, 6, .inl a9)), ((q 10), .inl (g.2 0, 6, .inl a10))] H := hP
  have hD : va_D A [((q 11), .inl (g.2 0, 6, .inl a11)), (h0, .inr (12, mO q i L)), ((q 9), .inl (g.2 0, 6, .inl a9)), ((q 10), .inl (g.2 0, 6, .inl a10))] := hD
  subst hw
  refine lv_icmp_eq (tgt := 46) hx hb dX12_told_29 (by decide) (fun c11 => ?_) (fun c11 => ?_)
  · refine lv_iconst (v := 1) hx hb dX12_told_46 (by decide) ?_
    refine lv_goto (tgt := 51) hx hb dX12_told_47 (by decide) ?_
    refine lv_iadd hx hb dX12_told_51 ?_
    refine lv_istore_n (lv' := [(2, .int ((lp_g_told_4 a11 a9 a10 what kz) + 1)), (3, .int (nI kz)), (0, .ref h0), (1, .int what)]) hx hb dX12_told_52 rfl hl (by decide) rfl (fun ls hl => ?_)
    refine lv_iinc (v := ((nI kz) + 1)) (lv' := [(3, .int ((nI kz) + 1)), (2, .int ((lp_g_told_4 a11 a9 a10 what kz) + 1)), (0, .ref h0), (1, .int what)]) hx hb dX12_told_53 hl (k := 1) rfl rfl (by decide) rfl (fun ls hl => ?_)
    refine lv_goto (tgt := 4) hx hb dX12_told_56 (by decide) ?_
    have e8 : (lp_g_told_4 a11 a9 a10 what (kz + 1)) = ((lp_g_told_4 a11 a9 a10 what kz) + 1) := by show bd_lp_g_told_4 a11 a9 a10 what kz (lp_g_told_4 a11 a9 a10 what kz) = _; unfold bd_lp_g_told_4; rw [if_pos c8, if_pos c11]
    rw [nI_1] at hl
    have hl : lv_has ls 4 [(3, .int (nI (kz + 1))), (2, .int (lp_g_told_4 a11 a9 a10 what (kz + 1))), (0, .ref h0), (1, .int what)] := by rw [e8]; exact lv_sub hl [0, 1, 2, 3] rfl
    have hP : va_P g.1 vwCl [(h0, .inr (12, mO q i L)), ((q 11), .inl (g.2 0, 6, .inl a11)), ((q 9), .inl (g.2 0, 6, .inl a9)), ((q 10), .inl (g.2 0, 6, .inl a10))] H := by exact hP.pick [1, 0, 2, 3] rfl
    have hD : va_D A [(h0, .inr (12, mO q i L)), ((q 11), .inl (g.2 0, 6, .inl a11)), ((q 9), .inl (g.2 0, 6, .inl a9)), ((q 10), .inl (g.2 0, 6, .inl a10))] := by exact hD.sub [1, 0, 2, 3] rfl rfl
    exact ih (kz + 1) ls H locs ⟨for_lt hkn c1, hl, hP, hD, hS⟩ (for_mu hkn c1)
  refine lv_iload_n hx hb dX12_told_32 rfl (lv_at hl 3 rfl) ?_
  refine lv_iconst (v := 5) hx hb dX12_told_33 (by decide) ?_
  refine lv_icmp_ne (tgt := 50) hx hb dX12_told_34 (by decide) (fun c12 => ?_) (fun c12 => ?_)
  · refine lv_iconst (v := 0) hx hb dX12_told_50 (by decide) ?_
    refine lv_iadd hx hb dX12_told_51 ?_
    refine lv_istore_n (lv' := [(2, .int ((lp_g_told_4 a11 a9 a10 what kz) + 0)), (3, .int (nI kz)), (0, .ref h0), (1, .int what)]) hx hb dX12_told_52 rfl hl (by decide) rfl (fun ls hl => ?_)
    refine lv_iinc (v := ((nI kz) + 1)) (lv' := [(3, .int ((nI kz) + 1)), (2, .int ((lp_g_told_4 a11 a9 a10 what kz) + 0)), (0, .ref h0), (1, .int what)]) hx hb dX12_told_53 hl (k := 1) rfl rfl (by decide) rfl (fun ls hl => ?_)
    refine lv_goto (tgt := 4) hx hb dX12_told_56 (by decide) ?_
    have e8 : (lp_g_told_4 a11 a9 a10 what (kz + 1)) = ((lp_g_told_4 a11 a9 a10 what kz) + 0) := by show bd_lp_g_told_4 a11 a9 a10 what kz (lp_g_told_4 a11 a9 a10 what kz) = _; unfold bd_lp_g_told_4; rw [if_pos c8, if_neg c11, if_neg c12]
    rw [nI_1] at hl
    have hl : lv_has ls 4 [(3, .int (nI (kz + 1))), (2, .int (lp_g_told_4 a11 a9 a10 what (kz + 1))), (0, .ref h0), (1, .int what)] := by rw [e8]; exact lv_sub hl [0, 1, 2, 3] rfl
    have hP : va_P g.1 vwCl [(h0, .inr (12, mO q i L)), ((q 11), .inl (g.2 0, 6, .inl a11)), ((q 9), .inl (g.2 0, 6, .inl a9)), ((q 10), .inl (g.2 0, 6, .inl a10))] H := by exact hP.pick [1, 0, 2, 3] rfl
    have hD : va_D A [(h0, .inr (12, mO q i L)), ((q 11), .inl (g.2 0, 6, .inl a11)), ((q 9), .inl (g.2 0, 6, .inl a9)), ((q 10), .inl (g.2 0, 6, .inl a10))] := by exact hD.sub [1, 0, 2, 3] rfl rfl
    exact ih (kz + 1) ls H locs ⟨for_lt hkn c1, hl, hP, hD, hS⟩ (for_mu hkn c1)
  refine lv_aload_n hx hb dX12_told_37 rfl (lv_at hl 2 rfl) ?_
  refine va_get (D := g.1) (ci := 12) (v := .ref (q 11)) (C := RX12) (T := TX12) (N := 66) hx hb hts hg_X12_told_X12 hown hK hP 1 rfl rfl 11 (by decide) (hts (.fieldLink RX12 31 "OilPushModel" "oil" "[I") (List.mem_of_getElem? (i := 2) rfl)) (fun _ h => h) rfl dX12_told_38 ?_
  refine lv_iload_n hx hb dX12_told_41 rfl (lv_at hl 0 rfl) ?_
  refine va_iald hx hb hK hP 0 0 rfl rfl (for_in hkn c1 h7.2 (by decide)) dX12_told_42 ?_
  refine lv_if_ne (tgt := 50) hx hb dX12_told_43 (by decide) (fun c13 => ?_) (fun c13 => ?_)
  · refine lv_iconst (v := 0) hx hb dX12_told_50 (by decide) ?_
    refine lv_iadd hx hb dX12_told_51 ?_
    refine lv_istore_n (lv' := [(2, .int ((lp_g_told_4 a11 a9 a10 what kz) + 0)), (3, .int (nI kz)), (0, .ref h0), (1, .int what)]) hx hb dX12_told_52 rfl hl (by decide) rfl (fun ls hl => ?_)
    refine lv_iinc (v := ((nI kz) + 1)) (lv' := [(3, .int ((nI kz) + 1)), (2, .int ((lp_g_told_4 a11 a9 a10 what kz) + 0)), (0, .ref h0), (1, .int what)]) hx hb dX12_told_53 hl (k := 1) rfl rfl (by decide) rfl (fun ls hl => ?_)
    refine lv_goto (tgt := 4) hx hb dX12_told_56 (by decide) ?_
    have e8 : (lp_g_told_4 a11 a9 a10 what (kz + 1)) = ((lp_g_told_4 a11 a9 a10 what kz) + 0) := by show bd_lp_g_told_4 a11 a9 a10 what kz (lp_g_told_4 a11 a9 a10 what kz) = _; unfold bd_lp_g_told_4; rw [if_pos c8, if_neg c11, if_pos c12, if_neg c13]
    rw [nI_1] at hl
    have hl : lv_has ls 4 [(3, .int (nI (kz + 1))), (2, .int (lp_g_told_4 a11 a9 a10 what (kz + 1))), (0, .ref h0), (1, .int what)] := by rw [e8]; exact lv_sub hl [0, 1, 2, 3] rfl
    have hP : va_P g.1 vwCl [(h0, .inr (12, mO q i L)), ((q 11), .inl (g.2 0, 6, .inl a11)), ((q 9), .inl (g.2 0, 6, .inl a9)), ((q 10), .inl (g.2 0, 6, .inl a10))] H := by exact hP.pick [1, 0, 2, 3] rfl
    have hD : va_D A [(h0, .inr (12, mO q i L)), ((q 11), .inl (g.2 0, 6, .inl a11)), ((q 9), .inl (g.2 0, 6, .inl a9)), ((q 10), .inl (g.2 0, 6, .inl a10))] := by exact hD.sub [1, 0, 2, 3] rfl rfl
    exact ih (kz + 1) ls H locs ⟨for_lt hkn c1, hl, hP, hD, hS⟩ (for_mu hkn c1)
  refine lv_iconst (v := 1) hx hb dX12_told_46 (by decide) ?_
  refine lv_goto (tgt := 51) hx hb dX12_told_47 (by decide) ?_
  refine lv_iadd hx hb dX12_told_51 ?_
  refine lv_istore_n (lv' := [(2, .int ((lp_g_told_4 a11 a9 a10 what kz) + 1)), (3, .int (nI kz)), (0, .ref h0), (1, .int what)]) hx hb dX12_told_52 rfl hl (by decide) rfl (fun ls hl => ?_)
  refine lv_iinc (v := ((nI kz) + 1)) (lv' := [(3, .int ((nI kz) + 1)), (2, .int ((lp_g_told_4 a11 a9 a10 what kz) + 1)), (0, .ref h0), (1, .int what)]) hx hb dX12_told_53 hl (k := 1) rfl rfl (by decide) rfl (fun ls hl => ?_)
  refine lv_goto (tgt := 4) hx hb dX12_told_56 (by decide) ?_
  have e8 : (lp_g_told_4 a11 a9 a10 what (kz + 1)) = ((lp_g_told_4 a11 a9 a10 what kz) + 1) := by show bd_lp_g_told_4 a11 a9 a10 what kz (lp_g_told_4 a11 a9 a10 what kz) = _; unfold bd_lp_g_told_4; rw [if_pos c8, if_neg c11, if_pos c12, if_pos c13]
  rw [nI_1] at hl
  have hl : lv_has ls 4 [(3, .int (nI (kz + 1))), (2, .int (lp_g_told_4 a11 a9 a10 what (kz + 1))), (0, .ref h0), (1, .int what)] := by rw [e8]; exact lv_sub hl [0, 1, 2, 3] rfl
  have hP : va_P g.1 vwCl [(h0, .inr (12, mO q i L)), ((q 11), .inl (g.2 0, 6, .inl a11)), ((q 9), .inl (g.2 0, 6, .inl a9)), ((q 10), .inl (g.2 0, 6, .inl a10))] H := by exact hP.pick [1, 0, 2, 3] rfl
  have hD : va_D A [(h0, .inr (12, mO q i L)), ((q 11), .inl (g.2 0, 6, .inl a11)), ((q 9), .inl (g.2 0, 6, .inl a9)), ((q 10), .inl (g.2 0, 6, .inl a10))] := by exact hD.sub [1, 0, 2, 3] rfl rfl
  exact ih (kz + 1) ls H locs ⟨for_lt hkn c1, hl, hP, hD, hS⟩ (for_mu hkn c1)
theorem lesser_le {n o : Int32} (hn : 0 ≤ n.toInt) (ho : 0 ≤ o.toInt) : 0 ≤ (r_c_lesser n o).toInt ∧ (r_c_lesser n o).toInt ≤ o.toInt := by
  unfold r_c_lesser
  by_cases h : o ≤ n
  · rw [if_pos h]; omega
  · rw [if_neg h]
    rw [Int32.le_iff_toInt_le] at h
    omega
