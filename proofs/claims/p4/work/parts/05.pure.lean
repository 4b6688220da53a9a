def r_c_within (v : Int32) (least : Int32) (most : Int32) : Int32 := (if v < least then 0 else (if most < v then 0 else 1))
theorem nz_r_c_within (v : Int32) (least : Int32) (most : Int32) : narrow .boolean (.int (r_c_within v least most)) = .int (r_c_within v least most) := by unfold r_c_within; (repeat' split) <;> rfl
set_option maxRecDepth 100000 in
set_option maxHeartbeats 4000000 in
theorem c_within (l : Launch) (v : Int32) (least : Int32) (most : Int32)  : PureI l yX11_within wsX11_within ({ frames := 0, cells := 0, slots := 0, locals := 0 } : Room) [.int v, .int least, .int most] (r_c_within v least most) := by
  refine PureI.of (cc := cX11_within) (maxL := 3) (ret := (some .boolean)) (by decide) rfl (Nat.le_of_ble_eq_true rfl) ?_
  intro p e s m below meth c ls hx hb hr hts hown hlocks hml hl
  have F : CallFix p m c cX11_within 3 s _ wsX11_within yX11_within.cls := ⟨hx, hb, hml, hown, hts⟩
  have hl : lv_has ls 3 [(0, .int v), (1, .int least), (2, .int most)] := hl
  refine lv_iload_n hx hb dX11_within_0 rfl (lv_at hl 0 rfl) ?_
  refine lv_iload_n hx hb dX11_within_1 rfl (lv_at hl 1 rfl) ?_
  refine lv_icmp_lt (tgt := 14) hx hb dX11_within_2 (by decide) (fun c1 => ?_) (fun c1 => ?_)
  · refine lv_iconst (v := 0) hx hb dX11_within_14 (by decide) ?_
    exact pretZ hx hb hr hlocks rfl (by unfold r_c_within; rw [if_pos c1]) dX11_within_15
  refine lv_iload_n hx hb dX11_within_5 rfl (lv_at hl 0 rfl) ?_
  refine lv_iload_n hx hb dX11_within_6 rfl (lv_at hl 2 rfl) ?_
  refine lv_icmp_gt (tgt := 14) hx hb dX11_within_7 (by decide) (fun c2 => ?_) (fun c2 => ?_)
  · refine lv_iconst (v := 0) hx hb dX11_within_14 (by decide) ?_
    exact pretZ hx hb hr hlocks rfl (by unfold r_c_within; rw [if_neg c1, if_pos c2]) dX11_within_15
  refine lv_iconst (v := 1) hx hb dX11_within_10 (by decide) ?_
  refine lv_goto (tgt := 15) hx hb dX11_within_11 (by decide) ?_
  exact pretZ hx hb hr hlocks rfl (by unfold r_c_within; rw [if_neg c1, if_neg c2]) dX11_within_15
set_option maxRecDepth 100000 in
set_option maxHeartbeats 4000000 in
theorem c_isLane (l : Launch) (lane : Int32)  : PureI l yX11_isLane wsX11_isLane ({ frames := 1, cells := 0, slots := 0, locals := 22 } : Room) [.int lane] (r_c_within lane 0 2) := by
  refine PureI.of (cc := cX11_isLane) (maxL := 1) (ret := (some .boolean)) (by decide) rfl (Nat.le_of_ble_eq_true rfl) ?_
  intro p e s m below meth c ls hx hb hr hts hown hlocks hml hl
  have F : CallFix p m c cX11_isLane 1 s _ wsX11_isLane yX11_isLane.cls := ⟨hx, hb, hml, hown, hts⟩
  have hl : lv_has ls 1 [(0, .int lane)] := hl
  refine lv_iload_n hx hb dX11_isLane_0 rfl (lv_at hl 0 rfl) ?_
  refine lv_iconst (v := 0) hx hb dX11_isLane_1 (by decide) ?_
  refine lv_iconst (v := 2) hx hb dX11_isLane_2 (by decide) ?_
  refine pureIS (As := [.int lane, .int 0, .int 2]) (rest := []) F (c_within l lane 0 2) 3 gX11_isLane_X11_within rfl (by decide +kernel) rfl rfl ⟨(Nat.le_of_ble_eq_true rfl), (Nat.le_of_ble_eq_true rfl)⟩ (Nat.le_of_ble_eq_true rfl) (Nat.le_of_ble_eq_true rfl) rfl hl.1 rfl (Nat.le_of_ble_eq_true rfl) dX11_isLane_3 ?_
  exact pretZ hx hb hr hlocks (nz_r_c_within lane 0 2) rfl dX11_isLane_6
def r_c_in (v : Int64) (lo : Int64) (hi : Int64) : Int32 := (if (lg_cmp v lo) < 0 then 0 else (if 0 < (lg_cmp v hi) then 0 else 1))
set_option maxRecDepth 100000 in
set_option maxHeartbeats 4000000 in
theorem c_in (l : Launch) (v : Int64) (lo : Int64) (hi : Int64)  : PureI l yX12_in wsX12_in ({ frames := 0, cells := 0, slots := 0, locals := 0 } : Room) [.long v, .long lo, .long hi] (r_c_in v lo hi) := by
  refine PureI.of (cc := cX12_in) (maxL := 6) (ret := (some .boolean)) (by decide) rfl (Nat.le_of_ble_eq_true rfl) ?_
  intro p e s m below meth c ls hx hb hr hts hown hlocks hml hl
  have F : CallFix p m c cX12_in 6 s _ wsX12_in yX12_in.cls := ⟨hx, hb, hml, hown, hts⟩
  have hl : lv_has ls 6 [(0, .long v), (2, .long lo), (4, .long hi)] := hl
  refine lv_lload_n hx hb dX12_in_0 rfl (lv_at hl 0 rfl) ?_
  refine lv_lload_n hx hb dX12_in_1 rfl (lv_at hl 1 rfl) ?_
  refine W.lcmp hx hb dX12_in_2 ?_
  refine lv_if_lt (tgt := 17) hx hb dX12_in_3 (by decide) (fun c1 => ?_) (fun c1 => ?_)
  · refine lv_iconst (v := 0) hx hb dX12_in_17 (by decide) ?_
    exact pretZ hx hb hr hlocks rfl (by unfold r_c_in; rw [if_pos c1]) dX12_in_18
  refine lv_lload_n hx hb dX12_in_6 rfl (lv_at hl 0 rfl) ?_
  refine lv_lload hx hb dX12_in_7 (lv_at hl 2 rfl) ?_
  refine W.lcmp hx hb dX12_in_9 ?_
  refine lv_if_gt (tgt := 17) hx hb dX12_in_10 (by decide) (fun c2 => ?_) (fun c2 => ?_)
  · refine lv_iconst (v := 0) hx hb dX12_in_17 (by decide) ?_
    exact pretZ hx hb hr hlocks rfl (by unfold r_c_in; rw [if_neg c1, if_pos c2]) dX12_in_18
  refine lv_iconst (v := 1) hx hb dX12_in_13 (by decide) ?_
  refine lv_goto (tgt := 18) hx hb dX12_in_14 (by decide) ?_
  exact pretZ hx hb hr hlocks rfl (by unfold r_c_in; rw [if_neg c1, if_neg c2]) dX12_in_18
set_option maxRecDepth 100000 in
set_option maxHeartbeats 4000000 in
theorem c_lost (l : Launch)  : PureL l yX12_lost wsX12_lost ({ frames := 0, cells := 0, slots := 0, locals := 0 } : Room) [] (-9223372036854775808) := by
  refine PureL.of (cc := cX12_lost) (maxL := 0) (ret := (some .long)) (by decide) rfl (Nat.le_of_ble_eq_true rfl) ?_
  intro p e s m below meth c ls hx hb hr hts hown hlocks hml hl
  have F : CallFix p m c cX12_lost 0 s _ wsX12_lost yX12_lost.cls := ⟨hx, hb, hml, hown, hts⟩
  have hl : lv_has ls 0 [] := hl
  refine lv_ldc2 (v := -9223372036854775808) hx hb hown (hts (.constantLong RX12 139 (-9223372036854775808)) (by decide +kernel)) dX12_lost_0 ?_
  exact pretL hx hb hr hlocks rfl dX12_lost_3
def r_c_lesser (a : Int32) (b : Int32) : Int32 := (if b ≤ a then b else a)
set_option maxRecDepth 100000 in
set_option maxHeartbeats 4000000 in
theorem c_lesser (l : Launch) (a : Int32) (b : Int32)  : PureI l yX12_lesser wsX12_lesser ({ frames := 0, cells := 0, slots := 0, locals := 0 } : Room) [.int a, .int b] (r_c_lesser a b) := by
  refine PureI.of (cc := cX12_lesser) (maxL := 2) (ret := (some .int)) (by decide) rfl (Nat.le_of_ble_eq_true rfl) ?_
  intro p e s m below meth c ls hx hb hr hts hown hlocks hml hl
  have F : CallFix p m c cX12_lesser 2 s _ wsX12_lesser yX12_lesser.cls := ⟨hx, hb, hml, hown, hts⟩
  have hl : lv_has ls 2 [(0, .int a), (1, .int b)] := hl
  refine lv_iload_n hx hb dX12_lesser_0 rfl (lv_at hl 0 rfl) ?_
  refine lv_iload_n hx hb dX12_lesser_1 rfl (lv_at hl 1 rfl) ?_
  refine lv_icmp_ge (tgt := 9) hx hb dX12_lesser_2 (by decide) (fun c1 => ?_) (fun c1 => ?_)
  · refine lv_iload_n hx hb dX12_lesser_9 rfl (lv_at hl 1 rfl) ?_
    exact pretI hx hb hr hlocks (by unfold r_c_lesser; rw [if_pos c1]) dX12_lesser_10
  refine lv_iload_n hx hb dX12_lesser_5 rfl (lv_at hl 0 rfl) ?_
  refine lv_goto (tgt := 10) hx hb dX12_lesser_6 (by decide) ?_
  exact pretI hx hb hr hlocks (by unfold r_c_lesser; rw [if_neg c1]) dX12_lesser_10
def r_c_noSheet (k : Int32) : Int32 := (if (r_c_in (Int32.toInt64 k) 0 3) = 0 then 1 else 0)
set_option maxRecDepth 100000 in
set_option maxHeartbeats 4000000 in
theorem c_noSheet (l : Launch) (k : Int32)  : PureI l yX12_noSheet wsX12_noSheet ({ frames := 1, cells := 0, slots := 0, locals := 25 } : Room) [.int k] (r_c_noSheet k) := by
  refine PureI.of (cc := cX12_noSheet) (maxL := 1) (ret := (some .boolean)) (by decide) rfl (Nat.le_of_ble_eq_true rfl) ?_
  intro p e s m below meth c ls hx hb hr hts hown hlocks hml hl
  have F : CallFix p m c cX12_noSheet 1 s _ wsX12_noSheet yX12_noSheet.cls := ⟨hx, hb, hml, hown, hts⟩
  have hl : lv_has ls 1 [(0, .int k)] := hl
  refine lv_iload_n hx hb dX12_noSheet_0 rfl (lv_at hl 0 rfl) ?_
  refine lv_i2l hx hb dX12_noSheet_1 rfl ?_
  refine lv_lconst (v := 0) hx hb dX12_noSheet_2 (by decide) ?_
  refine lv_ldc2 (v := 3) hx hb hown (hts (.constantLong RX12 148 (3)) (by decide +kernel)) dX12_noSheet_3 ?_
  refine pureIS (As := [.long (Int32.toInt64 k), .long 0, .long 3]) (rest := []) F (c_in l (Int32.toInt64 k) 0 3) 3 gX12_noSheet_X12_in rfl (by decide +kernel) rfl rfl ⟨(Nat.le_of_ble_eq_true rfl), (Nat.le_of_ble_eq_true rfl)⟩ (Nat.le_of_ble_eq_true rfl) (Nat.le_of_ble_eq_true rfl) rfl hl.1 rfl (Nat.le_of_ble_eq_true rfl) dX12_noSheet_6 ?_
  refine lv_if_ne (tgt := 16) hx hb dX12_noSheet_9 (by decide) (fun c1 => ?_) (fun c1 => ?_)
  · refine lv_iconst (v := 0) hx hb dX12_noSheet_16 (by decide) ?_
    exact pretZ hx hb hr hlocks rfl (by unfold r_c_noSheet; rw [if_neg c1]) dX12_noSheet_17
  refine lv_iconst (v := 1) hx hb dX12_noSheet_12 (by decide) ?_
  refine lv_goto (tgt := 17) hx hb dX12_noSheet_13 (by decide) ?_
  exact pretZ hx hb hr hlocks rfl (by unfold r_c_noSheet; rw [if_pos c1]) dX12_noSheet_17
def r_c_isBeyond (i : Int32) (n : Int32) (all : Int32) : Int32 := (if i < 0 then 1 else (if n < 0 then 1 else (if (lg_cmp ((Int32.toInt64 i) + (Int32.toInt64 n)) (Int32.toInt64 all)) ≤ 0 then 0 else 1)))
set_option maxRecDepth 100000 in
set_option maxHeartbeats 4000000 in
theorem c_isBeyond (l : Launch) (i : Int32) (n : Int32) (all : Int32)  : PureI l yX12_isBeyond wsX12_isBeyond ({ frames := 0, cells := 0, slots := 0, locals := 0 } : Room) [.int i, .int n, .int all] (r_c_isBeyond i n all) := by
  refine PureI.of (cc := cX12_isBeyond) (maxL := 3) (ret := (some .boolean)) (by decide) rfl (Nat.le_of_ble_eq_true rfl) ?_
  intro p e s m below meth c ls hx hb hr hts hown hlocks hml hl
  have F : CallFix p m c cX12_isBeyond 3 s _ wsX12_isBeyond yX12_isBeyond.cls := ⟨hx, hb, hml, hown, hts⟩
  have hl : lv_has ls 3 [(0, .int i), (1, .int n), (2, .int all)] := hl
  refine lv_iload_n hx hb dX12_isBeyond_0 rfl (lv_at hl 0 rfl) ?_
  refine lv_if_lt (tgt := 19) hx hb dX12_isBeyond_1 (by decide) (fun c1 => ?_) (fun c1 => ?_)
  · refine lv_iconst (v := 1) hx hb dX12_isBeyond_19 (by decide) ?_
    refine lv_goto (tgt := 24) hx hb dX12_isBeyond_20 (by decide) ?_
    exact pretZ hx hb hr hlocks rfl (by unfold r_c_isBeyond; rw [if_pos c1]) dX12_isBeyond_24
  refine lv_iload_n hx hb dX12_isBeyond_4 rfl (lv_at hl 1 rfl) ?_
  refine lv_if_lt (tgt := 19) hx hb dX12_isBeyond_5 (by decide) (fun c2 => ?_) (fun c2 => ?_)
  · refine lv_iconst (v := 1) hx hb dX12_isBeyond_19 (by decide) ?_
    refine lv_goto (tgt := 24) hx hb dX12_isBeyond_20 (by decide) ?_
    exact pretZ hx hb hr hlocks rfl (by unfold r_c_isBeyond; rw [if_neg c1, if_pos c2]) dX12_isBeyond_24
  refine lv_iload_n hx hb dX12_isBeyond_8 rfl (lv_at hl 0 rfl) ?_
  refine lv_i2l hx hb dX12_isBeyond_9 rfl ?_
  refine lv_iload_n hx hb dX12_isBeyond_10 rfl (lv_at hl 1 rfl) ?_
  refine lv_i2l hx hb dX12_isBeyond_11 rfl ?_
  refine lv_ladd hx hb dX12_isBeyond_12 ?_
  refine lv_iload_n hx hb dX12_isBeyond_13 rfl (lv_at hl 2 rfl) ?_
  refine lv_i2l hx hb dX12_isBeyond_14 rfl ?_
  refine W.lcmp hx hb dX12_isBeyond_15 ?_
  refine lv_if_le (tgt := 23) hx hb dX12_isBeyond_16 (by decide) (fun c3 => ?_) (fun c3 => ?_)
  · refine lv_iconst (v := 0) hx hb dX12_isBeyond_23 (by decide) ?_
    exact pretZ hx hb hr hlocks rfl (by unfold r_c_isBeyond; rw [if_neg c1, if_neg c2, if_pos c3]) dX12_isBeyond_24
  refine lv_iconst (v := 1) hx hb dX12_isBeyond_19 (by decide) ?_
  refine lv_goto (tgt := 24) hx hb dX12_isBeyond_20 (by decide) ?_
  exact pretZ hx hb hr hlocks rfl (by unfold r_c_isBeyond; rw [if_neg c1, if_neg c2, if_neg c3]) dX12_isBeyond_24
theorem in_of {n : Nat} {i : Int32} (hn : n < 2 ^ 31) (h1 : ¬ i < 0) (h2 : ¬ Int32.ofNat n ≤ i) : vp_in i n := by
  rw [vp_in_iff]
  have e : (Int32.ofNat n).toInt = (n : Int) := nI_toInt hn
  rw [Int32.le_iff_toInt_le, e] at h2
  rw [Int32.lt_iff_toInt_lt, Int32.toInt_zero] at h1
  omega
theorem lg_lt (x y : Int64) : lg_cmp x y < 0 ↔ x < y := by
  unfold lg_cmp
  by_cases h : y < x
  · rw [if_pos h]; exact ⟨fun q => absurd q (by decide), fun q => absurd (Int64.lt_trans h q) Int64.lt_irrefl⟩
  · rw [if_neg h]
    by_cases h2 : x = y
    · rw [if_pos h2]; subst h2; exact ⟨fun q => absurd q (by decide), fun q => absurd q Int64.lt_irrefl⟩
    · rw [if_neg h2]; exact ⟨fun _ => Int64.lt_of_le_of_ne (Int64.not_lt.mp h) h2, fun _ => by decide⟩
theorem lg_gt (x y : Int64) : 0 < lg_cmp x y ↔ y < x := by
  unfold lg_cmp
  by_cases h : y < x
  · rw [if_pos h]; exact ⟨fun _ => h, fun _ => by decide⟩
  · rw [if_neg h]
    refine ⟨fun q => ?_, fun q => absurd q h⟩
    by_cases h2 : x = y
    · rw [if_pos h2] at q; exact absurd q (by decide)
    · rw [if_neg h2] at q; exact absurd q (by decide)
theorem in_eq (v lo hi : Int64) : r_c_in v lo hi = if lo.toInt ≤ v.toInt ∧ v.toInt ≤ hi.toInt then 1 else 0 := by
  unfold r_c_in
  simp only [lg_lt, lg_gt, Int64.lt_iff_toInt_lt]
  by_cases h : v.toInt < lo.toInt
  · rw [if_pos h, if_neg (by omega)]
  · rw [if_neg h]
    by_cases h2 : hi.toInt < v.toInt
    · rw [if_pos h2, if_neg (by omega)]
    · rw [if_neg h2, if_pos (by omega)]
theorem within_eq (v lo hi : Int32) : r_c_within v lo hi = if lo.toInt ≤ v.toInt ∧ v.toInt ≤ hi.toInt then 1 else 0 := by
  unfold r_c_within
  simp only [Int32.lt_iff_toInt_lt]
  by_cases h : v.toInt < lo.toInt
  · rw [if_pos h, if_neg (by omega)]
  · rw [if_neg h]
    by_cases h2 : hi.toInt < v.toInt
    · rw [if_pos h2, if_neg (by omega)]
    · rw [if_neg h2, if_pos (by omega)]
/-- the two ways to ask for a range agree -/
theorem in_within (v lo hi : Int32) : r_c_in v.toInt64 lo.toInt64 hi.toInt64 = r_c_within v lo hi := by
  rw [in_eq, within_eq]; simp only [Int32.toInt_toInt64]
theorem noSheet_in {k : Int32} (h : r_c_noSheet k = 0) : vp_in k 4 := by
  rw [vp_in_iff]
  unfold r_c_noSheet at h
  by_cases h1 : r_c_in k.toInt64 0 3 = 0
  · rw [if_pos h1] at h; exact absurd h (by decide)
  · rw [show (r_c_in k.toInt64 0 3 = r_c_within k 0 3) from in_within k 0 3, within_eq] at h1
    have e0 : (0 : Int32).toInt = 0 := by decide
    have e3 : (3 : Int32).toInt = 3 := by decide
    rw [e0, e3] at h1
    by_cases h2 : 0 ≤ k.toInt ∧ k.toInt ≤ 3
    · omega
    · rw [if_neg h2] at h1; exact absurd rfl h1
