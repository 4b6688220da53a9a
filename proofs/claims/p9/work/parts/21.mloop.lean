theorem for_lt {b : Int32} {k : Nat} (hk : k ≤ b.toInt.toNat) (h : ¬ b ≤ nI k) : k + 1 ≤ b.toInt.toNat := by
  have h1 := Int32.toInt_lt b
  rw [Int32.le_iff_toInt_le, nI_toInt (by omega)] at h
  omega
theorem for_mu {b : Int32} {k : Nat} (hk : k ≤ b.toInt.toNat) (h : ¬ b ≤ nI k) : b.toInt.toNat - (k + 1) < b.toInt.toNat - k := by
  have := for_lt hk h
  omega
theorem for_end {b : Int32} {k : Nat} (hk : k ≤ b.toInt.toNat) (h : b ≤ nI k) : k = b.toInt.toNat := by
  have h1 := Int32.toInt_lt b
  rw [Int32.le_iff_toInt_le, nI_toInt (by omega)] at h
  omega
theorem for_in {b : Int32} {k n : Nat} (hk : k ≤ b.toInt.toNat) (h : ¬ b ≤ nI k) (hb : b.toInt ≤ n) (hn : n < 2 ^ 31) : vp_in (nI k) n := by
  have := for_lt hk h
  exact vp_in_nI (by omega) hn
def bd_lp_g_lastReading_4 (a53 : Nat → Int32) (k : Nat) (z : Int32) : Int32 := (if (a53 ((nI k).toNatClampNeg)) ≤ z then z else (a53 ((nI k).toNatClampNeg)))
def lp_g_lastReading_4 (a53 : Nat → Int32) : Nat → Int32
  | 0 => 0
  | k + 1 => bd_lp_g_lastReading_4 a53 k (lp_g_lastReading_4 a53 k)
theorem hg_X12_lastReading_X12 : ∀ w ∈ wsX120, w ∈ wsX12_lastReading := fun w h => List.mem_cons_of_mem _ (List.mem_append_right _ h)
set_option maxRecDepth 100000 in
set_option maxHeartbeats 4000000 in
theorem g_lastReading (l : Launch) (g : Gt) (h0 : Nat) (q : Nat → Nat) (i : Nat → Int32) (L : Nat → Int64) (a53 : Nat → Int32) (h52 : 0 ≤ (i 52).toInt ∧ (i 52).toInt ≤ 20) : Ctr l g yX12_lastReading wsX12_lastReading ({ frames := 0, cells := 0, slots := 0, locals := 0 } : Room) [.ref h0] [(h0, .inr (12, mO q i L)), ((q 53), .inl (g.2 0, 20, .inl a53))] (fun A => QI g A (fun r (_ : Unit) => r = (lp_g_lastReading_4 a53 ((i 52)).toInt.toNat)) (fun _u : Unit => [(h0, .inr (12, mO q i L)), ((q 53), .inl (g.2 0, 20, .inl a53))])) := by
  refine Ctr.of (cc := cX12_lastReading) (maxL := 3) (ret := (some .int)) (by decide) rfl (Nat.le_of_ble_eq_true rfl) ?_
  intro p e s m below meth c A ls H C hP hD hA hS hl
  obtain ⟨hx, hb, hr, hts, hown, hlocks, hml, hin, hKN⟩ := id C
  have hK := hKN.1
  have hN := hKN.2
  have F : CallFix p m c cX12_lastReading 3 s _ wsX12_lastReading yX12_lastReading.cls := ⟨hx, hb, hml, hown, hts⟩
  have hl : lv_has ls 3 [(0, .ref h0)] := hl
  refine lv_iconst (v := 0) hx hb dX12_lastReading_0 (by decide) ?_
  refine lv_istore_n (lv' := [(1, .int 0), (0, .ref h0)]) hx hb dX12_lastReading_1 rfl hl (by decide) rfl (fun ls hl => ?_)
  refine lv_iconst (v := 0) hx hb dX12_lastReading_2 (by decide) ?_
  refine lv_istore_n (lv' := [(2, .int 0), (1, .int 0), (0, .ref h0)]) hx hb dX12_lastReading_3 rfl hl (by decide) rfl (fun ls hl => ?_)
  refine W.loop (α := Nat) (P := fun kz ls H locs => kz ≤ ((i 52)).toInt.toNat ∧ lv_has ls 3 [(2, .int (nI kz)), (1, .int (lp_g_lastReading_4 a53 kz)), (0, .ref h0)] ∧ va_P g.1 vwCl [(h0, .inr (12, mO q i L)), ((q 53), .inl (g.2 0, 20, .inl a53))] H ∧ va_D A [(h0, .inr (12, mO q i L)), ((q 53), .inl (g.2 0, 20, .inl a53))] ∧ va_S A s.heap H locs) (μ := fun kz => ((i 52)).toInt.toNat - kz) 0 ⟨Nat.zero_le _, hl, hP, hD, hS⟩ (fun kz ls H locs hh ih => ?_)
  obtain ⟨hkn, hl, hP, hD, hS⟩ := hh
  refine lv_iload_n hx hb dX12_lastReading_4 rfl (lv_at hl 0 rfl) ?_
  refine lv_aload_n hx hb dX12_lastReading_5 rfl (lv_at hl 2 rfl) ?_
  refine va_get (D := g.1) (ci := 12) (v := .int (i 52)) (C := RX12) (T := TX12) (N := 66) hx hb hts hg_X12_lastReading_X12 hown hK hP 0 rfl rfl 52 (by decide) (hts (.fieldLink RX12 291 "OilPushModel" "readings" "I") (List.mem_of_getElem? (i := 1) rfl)) (fun _ h => h) rfl dX12_lastReading_6 ?_
  refine lv_icmp_ge (tgt := 39) hx hb dX12_lastReading_9 (by decide) (fun c1 => ?_) (fun c1 => ?_)
  · have hke := for_end hkn c1
    subst hke
    have hP : va_P g.1 vwCl [(h0, .inr (12, mO q i L)), ((q 53), .inl (g.2 0, 20, .inl a53))] H := hP
    have hD : va_D A [(h0, .inr (12, mO q i L)), ((q 53), .inl (g.2 0, 20, .inl a53))] := hD
    have hl : lv_has ls 3 [(2, .int (nI ((i 52)).toInt.toNat)), (1, .int (lp_g_lastReading_4 a53 ((i 52)).toInt.toNat)), (0, .ref h0)] := hl
    refine lv_iload_n hx hb dX12_lastReading_39 rfl (lv_at hl 1 rfl) ?_
    exact retI C hS () rfl (hP.pick [0, 1] rfl) (hD.sub [0, 1] rfl rfl) (Nat.le_of_ble_eq_true rfl) (Nat.le_of_ble_eq_true rfl) dX12_lastReading_40
  refine lv_aload_n hx hb dX12_lastReading_12 rfl (lv_at hl 2 rfl) ?_
  refine va_get (D := g.1) (ci := 12) (v := .ref (q 53)) (C := RX12) (T := TX12) (N := 66) hx hb hts hg_X12_lastReading_X12 hown hK hP 0 rfl rfl 53 (by decide) (hts (.fieldLink RX12 95 "OilPushModel" "readT" "[I") (List.mem_of_getElem? (i := 2) rfl)) (fun _ h => h) rfl dX12_lastReading_13 ?_
  refine lv_iload_n hx hb dX12_lastReading_16 rfl (lv_at hl 0 rfl) ?_
  refine va_iald hx hb hK hP 1 0 rfl rfl (for_in hkn c1 h52.2 (by decide)) dX12_lastReading_17 ?_
  refine lv_iload_n hx hb dX12_lastReading_18 rfl (lv_at hl 1 rfl) ?_
  refine lv_icmp_le (tgt := 31) hx hb dX12_lastReading_19 (by decide) (fun c2 => ?_) (fun c2 => ?_)
  · refine lv_iload_n hx hb dX12_lastReading_31 rfl (lv_at hl 1 rfl) ?_
    refine lv_istore_n (lv' := [(1, .int (lp_g_lastReading_4 a53 kz)), (2, .int (nI kz)), (0, .ref h0)]) hx hb dX12_lastReading_32 rfl hl (by decide) rfl (fun ls hl => ?_)
    refine lv_iinc (v := ((nI kz) + 1)) (lv' := [(2, .int ((nI kz) + 1)), (1, .int (lp_g_lastReading_4 a53 kz)), (0, .ref h0)]) hx hb dX12_lastReading_33 hl (k := 1) rfl rfl (by decide) rfl (fun ls hl => ?_)
    refine lv_goto (tgt := 4) hx hb dX12_lastReading_36 (by decide) ?_
    have e8 : (lp_g_lastReading_4 a53 (kz + 1)) = (lp_g_lastReading_4 a53 kz) := by show bd_lp_g_lastReading_4 a53 kz (lp_g_lastReading_4 a53 kz) = _; unfold bd_lp_g_lastReading_4; rw [if_pos c2]
    rw [nI_1] at hl
    have hl : lv_has ls 3 [(2, .int (nI (kz + 1))), (1, .int (lp_g_lastReading_4 a53 (kz + 1))), (0, .ref h0)] := by rw [e8]; exact lv_sub hl [0, 1, 2] rfl
    have hP : va_P g.1 vwCl [(h0, .inr (12, mO q i L)), ((q 53), .inl (g.2 0, 20, .inl a53))] H := by exact hP.pick [0, 1] rfl
    have hD : va_D A [(h0, .inr (12, mO q i L)), ((q 53), .inl (g.2 0, 20, .inl a53))] := by exact hD.sub [0, 1] rfl rfl
    exact ih (kz + 1) ls H locs ⟨for_lt hkn c1, hl, hP, hD, hS⟩ (for_mu hkn c1)
  refine lv_aload_n hx hb dX12_lastReading_22 rfl (lv_at hl 2 rfl) ?_
  refine va_get (D := g.1) (ci := 12) (v := .ref (q 53)) (C := RX12) (T := TX12) (N := 66) hx hb hts hg_X12_lastReading_X12 hown hK hP 0 rfl rfl 53 (by decide) (hts (.fieldLink RX12 95 "OilPushModel" "readT" "[I") (List.mem_of_getElem? (i := 2) rfl)) (fun _ h => h) rfl dX12_lastReading_23 ?_
  refine lv_iload_n hx hb dX12_lastReading_26 rfl (lv_at hl 0 rfl) ?_
  refine va_iald hx hb hK hP 1 0 rfl rfl (for_in hkn c1 h52.2 (by decide)) dX12_lastReading_27 ?_
  refine lv_goto (tgt := 32) hx hb dX12_lastReading_28 (by decide) ?_
  refine lv_istore_n (lv' := [(1, .int (a53 ((nI kz).toNatClampNeg))), (2, .int (nI kz)), (0, .ref h0)]) hx hb dX12_lastReading_32 rfl hl (by decide) rfl (fun ls hl => ?_)
  refine lv_iinc (v := ((nI kz) + 1)) (lv' := [(2, .int ((nI kz) + 1)), (1, .int (a53 ((nI kz).toNatClampNeg))), (0, .ref h0)]) hx hb dX12_lastReading_33 hl (k := 1) rfl rfl (by decide) rfl (fun ls hl => ?_)
  refine lv_goto (tgt := 4) hx hb dX12_lastReading_36 (by decide) ?_
  have e8 : (lp_g_lastReading_4 a53 (kz + 1)) = (a53 ((nI kz).toNatClampNeg)) := by show bd_lp_g_lastReading_4 a53 kz (lp_g_lastReading_4 a53 kz) = _; unfold bd_lp_g_lastReading_4; rw [if_neg c2]
  rw [nI_1] at hl
  have hl : lv_has ls 3 [(2, .int (nI (kz + 1))), (1, .int (lp_g_lastReading_4 a53 (kz + 1))), (0, .ref h0)] := by rw [e8]; exact lv_sub hl [0, 1, 2] rfl
  have hP : va_P g.1 vwCl [(h0, .inr (12, mO q i L)), ((q 53), .inl (g.2 0, 20, .inl a53))] H := by exact hP.pick [0, 1] rfl
  have hD : va_D A [(h0, .inr (12, mO q i L)), ((q 53), .inl (g.2 0, 20, .inl a53))] := by exact hD.sub [0, 1] rfl rfl
  exact ih (kz + 1) ls H locs ⟨for_lt hkn c1, hl, hP, hD, hS⟩ (for_mu hkn c1)
theorem lesser_le {n o : Int32} (hn : 0 ≤ n.toInt) (ho : 0 ≤ o.toInt) : 0 ≤ (r_c_lesser n o).toInt ∧ (r_c_lesser n o).toInt ≤ o.toInt := by
  unfold r_c_lesser
  by_cases h : o ≤ n
  · rw [if_pos h]; omega
  · rw [if_neg h]
    rw [Int32.le_iff_toInt_le] at h
    omega
