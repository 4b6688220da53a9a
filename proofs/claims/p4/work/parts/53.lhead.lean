theorem sc_gt {k N : Nat} (hk : 6 * k + 6 ≤ N) (hL : N ≤ 3072) : ¬ Int32.ofNat N - 6 < nI (6 * k) := by
  have e1 : (Int32.ofNat N).toInt = (N : Int) := nI_toInt (by omega)
  have e2 := nI_toInt (n := 6 * k) (by omega)
  have e3 : (Int32.ofNat N - 6).toInt = (N : Int) - 6 := by rw [Int32.toInt_sub, e1, show (6 : Int32).toInt = 6 from by decide, Int.bmod_eq_of_le] <;> omega
  rw [Int32.lt_iff_toInt_lt, e3, e2]
  omega
theorem sc_lt {k N : Nat} (h0 : 6 * k ≤ N) (hk : ¬ 6 * k + 6 ≤ N) (hL : N ≤ 3072) : Int32.ofNat N - 6 < nI (6 * k) := by
  have e1 : (Int32.ofNat N).toInt = (N : Int) := nI_toInt (by omega)
  have e2 := nI_toInt (n := 6 * k) (by omega)
  have e3 : (Int32.ofNat N - 6).toInt = (N : Int) - 6 := by rw [Int32.toInt_sub, e1, show (6 : Int32).toInt = 6 from by decide, Int.bmod_eq_of_le] <;> omega
  rw [Int32.lt_iff_toInt_lt, e3, e2]
  omega
set_option maxRecDepth 100000 in
theorem law_exit {p : Program} {l : Launch} {e : Env} {s : State} {m : MethodId} {below : List Frame} {meth : Method} {c : Code} {g : Gt} {b N ho hm : Nat} {ux q : Nat → Nat} {xs : Nat → Int32} (C : Ctx g p s m #[Value.ref b] meth c yL_law wsL_law cL_law 4 (some .boolean)) (hX : va_X b N xs s s.heap) (hbl : b < s.heap.size) (hL : N ≤ 3072) {n k : Nat} (h0 : 6 * k ≤ N) (hk : ¬ 6 * k + 6 ≤ N) : LAt p l e s m below meth c g b ho hm ux q n k 18 := by
  intro ls H locs cells slots xi xl xa fc cs i L a aL hcl hsl hinv hl hP hD hS
  obtain ⟨hx, hb, hr, hts, hown, hlocks, hml, hin, hKN⟩ := id C
  have hbA : ¬ (fun q : Nat => s.heap.size ≤ q) b := Nat.not_le.mpr hbl
  refine lv_iload_n hx hb dL_law_18 rfl (lv_at hl 0 rfl) ?_
  refine lv_aload_n hx hb dL_law_19 rfl (lv_at hl 3 rfl) ?_
  refine va_slen hx hb hX hbl hbA hS dL_law_20 ?_
  refine lv_bipush (v := 6) hx hb dL_law_21 (by decide) ?_
  refine lv_isub hx hb dL_law_23 ?_
  refine lv_icmp_gt (tgt := 1140) hx hb dL_law_24 (by decide) (fun _ => ?_) (fun cc0 => absurd (sc_lt h0 hk hL) cc0)
  refine lv_iconst (v := 1) hx hb dL_law_1140 (by decide) ?_
  refine va_forget (fun q hq => hS.2.2 q hq) ?_
  exact W.widen (show cells ≤ 600000 by omega) (show slots ≤ 7302250 by omega) (lw_ret hx hb hr hlocks dL_law_1141)
set_option maxRecDepth 100000 in
set_option maxHeartbeats 4000000 in
theorem law_step {p : Program} {l : Launch} {e : Env} {s : State} {m : MethodId} {below : List Frame} {meth : Method} {c : Code} {g : Gt} {b N ho hm : Nat} {ux q : Nat → Nat} {xs : Nat → Int32} (C : Ctx g p s m #[Value.ref b] meth c yL_law wsL_law cL_law 4 (some .boolean)) (hX : va_X b N xs s s.heap) (hbl : b < s.heap.size) (hL : N ≤ 3072) {n k : Nat} (hk : 6 * k + 6 ≤ N) (ih : LAt p l e s m below meth c g b ho hm ux q n (k + 1) 18) : LAt p l e s m below meth c g b ho hm ux q (n + 1) k 18 := by
  intro ls H locs cells slots xi xl xa fc cs i L a aL hcl hsl hinv hl hP hD hS
  obtain ⟨hx, hb, hr, hts, hown, hlocks, hml, hin, hKN⟩ := id C
  have hbA : ¬ (fun q : Nat => s.heap.size ≤ q) b := Nat.not_le.mpr hbl
  refine lv_iload_n hx hb dL_law_18 rfl (lv_at hl 0 rfl) ?_
  refine lv_aload_n hx hb dL_law_19 rfl (lv_at hl 3 rfl) ?_
  refine va_slen hx hb hX hbl hbA hS dL_law_20 ?_
  refine lv_bipush (v := 6) hx hb dL_law_21 (by decide) ?_
  refine lv_isub hx hb dL_law_23 ?_
  refine lv_icmp_gt (tgt := 1140) hx hb dL_law_24 (by decide) (fun cc0 => absurd cc0 (sc_gt hk hL)) (fun _ => ?_)
  refine lv_aload_n hx hb dL_law_27 rfl (lv_at hl 3 rfl) ?_
  refine lv_iload_n hx hb dL_law_28 rfl (lv_at hl 0 rfl) ?_
  refine va_sld hx hb hX hbl hbA hS (sc_in0 hk hL) dL_law_29 ?_
  refine lv_bipush (v := 31) hx hb dL_law_30 (by decide) ?_
  refine lv_iand hx hb dL_law_32 ?_
  generalize xs (nI (6 * k)).toNatClampNeg &&& 31 = x0
  by_cases g0 : x0 = 0
  · refine lv_tableIn (tgt := 168) (off := 135) hx hb dL_law_33 (by rw [g0]; decide) (by rw [g0]; decide) (by rw [g0]; rfl) (by decide) ?_
    exact lc_pump C hX hbl hL hk ih ls H locs cells slots xi xl xa fc cs i L a aL hcl hsl hinv hl hP hD hS
  by_cases g1 : x0 = 1
  · refine lv_tableIn (tgt := 201) (off := 168) hx hb dL_law_33 (by rw [g1]; decide) (by rw [g1]; decide) (by rw [g1]; rfl) (by decide) ?_
    exact lc_cylinder C hX hbl hL hk ih ls H locs cells slots xi xl xa fc cs i L a aL hcl hsl hinv hl hP hD hS
  by_cases g2 : x0 = 2
  · refine lv_tableIn (tgt := 244) (off := 211) hx hb dL_law_33 (by rw [g2]; decide) (by rw [g2]; decide) (by rw [g2]; rfl) (by decide) ?_
    exact lc_rule C hX hbl hL hk ih ls H locs cells slots xi xl xa fc cs i L a aL hcl hsl hinv hl hP hD hS
  by_cases g3 : x0 = 3
  · refine lv_tableIn (tgt := 287) (off := 254) hx hb dL_law_33 (by rw [g3]; decide) (by rw [g3]; decide) (by rw [g3]; rfl) (by decide) ?_
    exact lc_loads C hX hbl hL hk ih ls H locs cells slots xi xl xa fc cs i L a aL hcl hsl hinv hl hP hD hS
  by_cases g4 : x0 = 4
  · refine lv_tableIn (tgt := 350) (off := 317) hx hb dL_law_33 (by rw [g4]; decide) (by rw [g4]; decide) (by rw [g4]; rfl) (by decide) ?_
    exact lc_valve C hX hbl hL hk ih ls H locs cells slots xi xl xa fc cs i L a aL hcl hsl hinv hl hP hD hS
  by_cases g5 : x0 = 5
  · refine lv_tableIn (tgt := 383) (off := 350) hx hb dL_law_33 (by rw [g5]; decide) (by rw [g5]; decide) (by rw [g5]; rfl) (by decide) ?_
    exact lc_fill C hX hbl hL hk ih ls H locs cells slots xi xl xa fc cs i L a aL hcl hsl hinv hl hP hD hS
  by_cases g6 : x0 = 6
  · refine lv_tableIn (tgt := 416) (off := 383) hx hb dL_law_33 (by rw [g6]; decide) (by rw [g6]; decide) (by rw [g6]; rfl) (by decide) ?_
    exact lc_burst C hX hbl hL hk ih ls H locs cells slots xi xl xa fc cs i L a aL hcl hsl hinv hl hP hD hS
  by_cases g7 : x0 = 7
  · refine lv_tableIn (tgt := 465) (off := 432) hx hb dL_law_33 (by rw [g7]; decide) (by rw [g7]; decide) (by rw [g7]; rfl) (by decide) ?_
    exact lc_store C hX hbl hL hk ih ls H locs cells slots xi xl xa fc cs i L a aL hcl hsl hinv hl hP hD hS
  by_cases g8 : x0 = 8
  · refine lv_tableIn (tgt := 508) (off := 475) hx hb dL_law_33 (by rw [g8]; decide) (by rw [g8]; decide) (by rw [g8]; rfl) (by decide) ?_
    exact lc_about C hX hbl hL hk ih ls H locs cells slots xi xl xa fc cs i L a aL hcl hsl hinv hl hP hD hS
  by_cases g9 : x0 = 9
  · refine lv_tableIn (tgt := 541) (off := 508) hx hb dL_law_33 (by rw [g9]; decide) (by rw [g9]; decide) (by rw [g9]; rfl) (by decide) ?_
    exact lc_tick C hX hbl hL hk ih ls H locs cells slots xi xl xa fc cs i L a aL hcl hsl hinv hl hP hD hS
  by_cases g10 : x0 = 10
  · refine lv_tableIn (tgt := 564) (off := 531) hx hb dL_law_33 (by rw [g10]; decide) (by rw [g10]; decide) (by rw [g10]; rfl) (by decide) ?_
    exact lc_gauge C hX hbl hL hk ih ls H locs cells slots xi xl xa fc cs i L a aL hcl hsl hinv hl hP hD hS
  by_cases g11 : x0 = 11
  · refine lv_tableIn (tgt := 587) (off := 554) hx hb dL_law_33 (by rw [g11]; decide) (by rw [g11]; decide) (by rw [g11]; rfl) (by decide) ?_
    exact lc_mover C hX hbl hL hk ih ls H locs cells slots xi xl xa fc cs i L a aL hcl hsl hinv hl hP hD hS
  by_cases g12 : x0 = 12
  · refine lv_tableIn (tgt := 610) (off := 577) hx hb dL_law_33 (by rw [g12]; decide) (by rw [g12]; decide) (by rw [g12]; rfl) (by decide) ?_
    exact lc_sum C hX hbl hL hk ih ls H locs cells slots xi xl xa fc cs i L a aL hcl hsl hinv hl hP hD hS
  by_cases g13 : x0 = 13
  · refine lv_tableIn (tgt := 633) (off := 600) hx hb dL_law_33 (by rw [g13]; decide) (by rw [g13]; decide) (by rw [g13]; rfl) (by decide) ?_
    exact lc_order C hX hbl hL hk ih ls H locs cells slots xi xl xa fc cs i L a aL hcl hsl hinv hl hP hD hS
  by_cases g14 : x0 = 14
  · refine lv_tableIn (tgt := 686) (off := 653) hx hb dL_law_33 (by rw [g14]; decide) (by rw [g14]; decide) (by rw [g14]; rfl) (by decide) ?_
    exact lc_waits C hX hbl hL hk ih ls H locs cells slots xi xl xa fc cs i L a aL hcl hsl hinv hl hP hD hS
  by_cases g15 : x0 = 15
  · refine lv_tableIn (tgt := 699) (off := 666) hx hb dL_law_33 (by rw [g15]; decide) (by rw [g15]; decide) (by rw [g15]; rfl) (by decide) ?_
    exact lc_start C hX hbl hL hk ih ls H locs cells slots xi xl xa fc cs i L a aL hcl hsl hinv hl hP hD hS
  by_cases g16 : x0 = 16
  · refine lv_tableIn (tgt := 712) (off := 679) hx hb dL_law_33 (by rw [g16]; decide) (by rw [g16]; decide) (by rw [g16]; rfl) (by decide) ?_
    exact lc_reading C hX hbl hL hk ih ls H locs cells slots xi xl xa fc cs i L a aL hcl hsl hinv hl hP hD hS
  by_cases g17 : x0 = 17
  · refine lv_tableIn (tgt := 755) (off := 722) hx hb dL_law_33 (by rw [g17]; decide) (by rw [g17]; decide) (by rw [g17]; rfl) (by decide) ?_
    exact lc_forget C hX hbl hL hk ih ls H locs cells slots xi xl xa fc cs i L a aL hcl hsl hinv hl hP hD hS
  by_cases g18 : x0 = 18
  · refine lv_tableIn (tgt := 768) (off := 735) hx hb dL_law_33 (by rw [g18]; decide) (by rw [g18]; decide) (by rw [g18]; rfl) (by decide) ?_
    exact lc_leak C hX hbl hL hk ih ls H locs cells slots xi xl xa fc cs i L a aL hcl hsl hinv hl hP hD hS
  by_cases g19 : x0 = 19
  · refine lv_tableIn (tgt := 791) (off := 758) hx hb dL_law_33 (by rw [g19]; decide) (by rw [g19]; decide) (by rw [g19]; rfl) (by decide) ?_
    exact lc_sheet C hX hbl hL hk ih ls H locs cells slots xi xl xa fc cs i L a aL hcl hsl hinv hl hP hD hS
  by_cases g20 : x0 = 20
  · refine lv_tableIn (tgt := 834) (off := 801) hx hb dL_law_33 (by rw [g20]; decide) (by rw [g20]; decide) (by rw [g20]; rfl) (by decide) ?_
    exact lc_lose C hX hbl hL hk ih ls H locs cells slots xi xl xa fc cs i L a aL hcl hsl hinv hl hP hD hS
  by_cases g21 : x0 = 21
  · refine lv_tableIn (tgt := 857) (off := 824) hx hb dL_law_33 (by rw [g21]; decide) (by rw [g21]; decide) (by rw [g21]; rfl) (by decide) ?_
    exact lc_put C hX hbl hL hk ih ls H locs cells slots xi xl xa fc cs i L a aL hcl hsl hinv hl hP hD hS
  by_cases g22 : x0 = 22
  · refine lv_tableIn (tgt := 900) (off := 867) hx hb dL_law_33 (by rw [g22]; decide) (by rw [g22]; decide) (by rw [g22]; rfl) (by decide) ?_
    exact lc_cell C hX hbl hL hk ih ls H locs cells slots xi xl xa fc cs i L a aL hcl hsl hinv hl hP hD hS
  by_cases g23 : x0 = 23
  · refine lv_tableIn (tgt := 943) (off := 910) hx hb dL_law_33 (by rw [g23]; decide) (by rw [g23]; decide) (by rw [g23]; rfl) (by decide) ?_
    exact lc_copy C hX hbl hL hk ih ls H locs cells slots xi xl xa fc cs i L a aL hcl hsl hinv hl hP hD hS
  by_cases g24 : x0 = 24
  · refine lv_tableIn (tgt := 1006) (off := 973) hx hb dL_law_33 (by rw [g24]; decide) (by rw [g24]; decide) (by rw [g24]; rfl) (by decide) ?_
    exact lc_tell C hX hbl hL hk ih ls H locs cells slots xi xl xa fc cs i L a aL hcl hsl hinv hl hP hD hS
  by_cases g25 : x0 = 25
  · refine lv_tableIn (tgt := 1029) (off := 996) hx hb dL_law_33 (by rw [g25]; decide) (by rw [g25]; decide) (by rw [g25]; rfl) (by decide) ?_
    exact lc_look C hX hbl hL hk ih ls H locs cells slots xi xl xa fc cs i L a aL hcl hsl hinv hl hP hD hS
  by_cases g26 : x0 = 26
  · refine lv_tableIn (tgt := 1052) (off := 1019) hx hb dL_law_33 (by rw [g26]; decide) (by rw [g26]; decide) (by rw [g26]; rfl) (by decide) ?_
    exact lc_as C hX hbl hL hk ih ls H locs cells slots xi xl xa fc cs i L a aL hcl hsl hinv hl hP hD hS
  by_cases g27 : x0 = 27
  · refine lv_tableIn (tgt := 1085) (off := 1052) hx hb dL_law_33 (by rw [g27]; decide) (by rw [g27]; decide) (by rw [g27]; rfl) (by decide) ?_
    exact lc_trace C hX hbl hL hk ih ls H locs cells slots xi xl xa fc cs i L a aL hcl hsl hinv hl hP hD hS
  by_cases g28 : x0 = 28
  · refine lv_tableIn (tgt := 1098) (off := 1065) hx hb dL_law_33 (by rw [g28]; decide) (by rw [g28]; decide) (by rw [g28]; rfl) (by decide) ?_
    exact lc_fault C hX hbl hL hk ih ls H locs cells slots xi xl xa fc cs i L a aL hcl hsl hinv hl hP hD hS
  by_cases g29 : x0 = 29
  · refine lv_tableIn (tgt := 1111) (off := 1078) hx hb dL_law_33 (by rw [g29]; decide) (by rw [g29]; decide) (by rw [g29]; rfl) (by decide) ?_
    exact lc_told C hX hbl hL hk ih ls H locs cells slots xi xl xa fc cs i L a aL hcl hsl hinv hl hP hD hS
  refine lv_tableOut (tgt := 1134) hx hb dL_law_33 (sw_out (n := 29) (by omega) (fun j hj => ?_)) (by decide) ?_
  · have hj2 : j < 30 := by omega
    clear hj
    rcases (show j = 0 ∨ j = 1 ∨ j = 2 ∨ j = 3 ∨ j = 4 ∨ j = 5 ∨ j = 6 ∨ j = 7 ∨ j = 8 ∨ j = 9 ∨ j = 10 ∨ j = 11 ∨ j = 12 ∨ j = 13 ∨ j = 14 ∨ j = 15 ∨ j = 16 ∨ j = 17 ∨ j = 18 ∨ j = 19 ∨ j = 20 ∨ j = 21 ∨ j = 22 ∨ j = 23 ∨ j = 24 ∨ j = 25 ∨ j = 26 ∨ j = 27 ∨ j = 28 ∨ j = 29 by omega) with rfl | rfl | rfl | rfl | rfl | rfl | rfl | rfl | rfl | rfl | rfl | rfl | rfl | rfl | rfl | rfl | rfl | rfl | rfl | rfl | rfl | rfl | rfl | rfl | rfl | rfl | rfl | rfl | rfl | rfl <;> assumption
  refine lv_iinc (v := nI (6 * (k + 1))) (lv' := [(3, .int (nI (6 * (k + 1)))), (2, .ref hm), (1, .ref ho), (0, .ref b)]) hx hb dL_law_1134 hl (k := 0) rfl (sc_next k) (by decide) rfl (fun ls hl => ?_)
  refine lv_goto (tgt := 18) hx hb dL_law_1137 (by decide) ?_
  exact ih ls H locs cells slots xi xl xa fc cs i L a aL (by omega) (by omega) hinv hl hP hD hS
theorem law_loop {p : Program} {l : Launch} {e : Env} {s : State} {m : MethodId} {below : List Frame} {meth : Method} {c : Code} {g : Gt} {b N ho hm : Nat} {ux q : Nat → Nat} {xs : Nat → Int32} (C : Ctx g p s m #[Value.ref b] meth c yL_law wsL_law cL_law 4 (some .boolean)) (hX : va_X b N xs s s.heap) (hbl : b < s.heap.size) (hL : N ≤ 3072) : ∀ (n k : Nat), 6 * k ≤ N → N < 6 * (n + k) + 6 → LAt p l e s m below meth c g b ho hm ux q n k 18
  | 0, k, h0, h1 => law_exit C hX hbl hL h0 (by omega)
  | n + 1, k, h0, h1 => by
    by_cases hk : 6 * k + 6 ≤ N
    · exact law_step C hX hbl hL hk (law_loop C hX hbl hL n (k + 1) (by omega) (by omega))
    · exact law_exit C hX hbl hL h0 hk
