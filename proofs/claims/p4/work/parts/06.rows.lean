def r_c_get (n : Nat) (f : Nat → Int32) (i : Int32) : Int32 := (if i < 0 then 0 else (if (Int32.ofNat n) ≤ i then 0 else (f (i.toNatClampNeg))))
set_option maxRecDepth 100000 in
set_option maxHeartbeats 4000000 in
theorem c_get (l : Launch) (g : Gt) (row : Nat) (n : Nat) (f : Nat → Int32) (i : Int32) (hn : n < 2 ^ 31) : Ctr l g yX11_get wsX11_get ({ frames := 0, cells := 0, slots := 0, locals := 0 } : Room) [.ref row, .int i] [(row, .inl (g.2 0, n, .inl f))] (fun A => QI g A (fun r (_ : Unit) => r = (r_c_get n f i)) (fun _u : Unit => [(row, .inl (g.2 0, n, .inl f))])) := by
  refine Ctr.of (cc := cX11_get) (maxL := 2) (ret := (some .int)) (by decide) rfl (Nat.le_of_ble_eq_true rfl) ?_
  intro p e s m below meth c A ls H C hP hD hA hS hl
  obtain ⟨hx, hb, hr, hts, hown, hlocks, hml, hin, hKN⟩ := id C
  have hK := hKN.1
  have hN := hKN.2
  have F : CallFix p m c cX11_get 2 s _ wsX11_get yX11_get.cls := ⟨hx, hb, hml, hown, hts⟩
  have hl : lv_has ls 2 [(0, .ref row), (1, .int i)] := hl
  refine lv_iload_n hx hb dX11_get_0 rfl (lv_at hl 1 rfl) ?_
  refine lv_if_lt (tgt := 16) hx hb dX11_get_1 (by decide) (fun c1 => ?_) (fun c1 => ?_)
  · refine lv_iconst (v := 0) hx hb dX11_get_16 (by decide) ?_
    exact retI C hS () (by unfold r_c_get; rw [if_pos c1]) (hP.pick [0] rfl) (hD.sub [0] rfl rfl) (Nat.le_of_ble_eq_true rfl) (Nat.le_of_ble_eq_true rfl) dX11_get_17
  refine lv_iload_n hx hb dX11_get_4 rfl (lv_at hl 1 rfl) ?_
  refine lv_aload_n hx hb dX11_get_5 rfl (lv_at hl 0 rfl) ?_
  refine va_alen (v := Int32.ofNat n) hx hb hK hP 0 0 rfl rfl rfl dX11_get_6 ?_
  refine lv_icmp_ge (tgt := 16) hx hb dX11_get_7 (by decide) (fun c2 => ?_) (fun c2 => ?_)
  · refine lv_iconst (v := 0) hx hb dX11_get_16 (by decide) ?_
    exact retI C hS () (by unfold r_c_get; rw [if_neg c1, if_pos c2]) (hP.pick [0] rfl) (hD.sub [0] rfl rfl) (Nat.le_of_ble_eq_true rfl) (Nat.le_of_ble_eq_true rfl) dX11_get_17
  refine lv_aload_n hx hb dX11_get_10 rfl (lv_at hl 0 rfl) ?_
  refine lv_iload_n hx hb dX11_get_11 rfl (lv_at hl 1 rfl) ?_
  refine va_iald hx hb hK hP 0 0 rfl rfl (in_of (n := n) hn c1 c2) dX11_get_12 ?_
  refine lv_goto (tgt := 17) hx hb dX11_get_13 (by decide) ?_
  exact retI C hS () (by unfold r_c_get; rw [if_neg c1, if_neg c2]) (hP.pick [0] rfl) (hD.sub [0] rfl rfl) (Nat.le_of_ble_eq_true rfl) (Nat.le_of_ble_eq_true rfl) dX11_get_17
def r_c_set (n : Nat) (f : Nat → Int32) (i v : Int32) : Nat → Int32 := if i < 0 then f else (if (Int32.ofNat n) ≤ i then f else upd f (i.toNatClampNeg) v)
set_option maxRecDepth 100000 in
set_option maxHeartbeats 4000000 in
theorem c_set (l : Launch) (g : Gt) (row : Nat) (n : Nat) (f : Nat → Int32) (i : Int32) (v : Int32) (hn : n < 2 ^ 31) : Ctr l g yX11_set wsX11_set ({ frames := 0, cells := 0, slots := 0, locals := 0 } : Room) [.ref row, .int i, .int v] [(row, .inl (g.2 0, n, .inl f))] (fun A => QV g A (fun _ : Unit => () = ()) (fun _u : Unit => [(row, .inl (g.2 0, n, .inl (r_c_set n f i v)))])) := by
  refine Ctr.of (cc := cX11_set) (maxL := 3) (ret := none) (by decide) rfl (Nat.le_of_ble_eq_true rfl) ?_
  intro p e s m below meth c A ls H C hP hD hA hS hl
  obtain ⟨hx, hb, hr, hts, hown, hlocks, hml, hin, hKN⟩ := id C
  have hK := hKN.1
  have hN := hKN.2
  have F : CallFix p m c cX11_set 3 s _ wsX11_set yX11_set.cls := ⟨hx, hb, hml, hown, hts⟩
  have hl : lv_has ls 3 [(0, .ref row), (1, .int i), (2, .int v)] := hl
  refine lv_iload_n hx hb dX11_set_0 rfl (lv_at hl 1 rfl) ?_
  refine lv_if_lt (tgt := 14) hx hb dX11_set_1 (by decide) (fun c1 => ?_) (fun c1 => ?_)
  · have e9 : r_c_set n f i v = f := by unfold r_c_set; rw [if_pos c1]
    have hP : va_P g.1 vwCl [(row, .inl (g.2 0, n, .inl (r_c_set n f i v)))] H := by rw [e9]; exact hP
    have hD : va_D A [(row, .inl (g.2 0, n, .inl (r_c_set n f i v)))] := by rw [e9]; exact hD
    exact retV C hS () rfl (hP.pick [0] rfl) (hD.sub [0] rfl rfl) (Nat.le_of_ble_eq_true rfl) (Nat.le_of_ble_eq_true rfl) dX11_set_14
  refine lv_iload_n hx hb dX11_set_4 rfl (lv_at hl 1 rfl) ?_
  refine lv_aload_n hx hb dX11_set_5 rfl (lv_at hl 0 rfl) ?_
  refine va_alen (v := Int32.ofNat n) hx hb hK hP 0 0 rfl rfl rfl dX11_set_6 ?_
  refine lv_icmp_ge (tgt := 14) hx hb dX11_set_7 (by decide) (fun c2 => ?_) (fun c2 => ?_)
  · have e9 : r_c_set n f i v = f := by unfold r_c_set; rw [if_neg c1, if_pos c2]
    have hP : va_P g.1 vwCl [(row, .inl (g.2 0, n, .inl (r_c_set n f i v)))] H := by rw [e9]; exact hP
    have hD : va_D A [(row, .inl (g.2 0, n, .inl (r_c_set n f i v)))] := by rw [e9]; exact hD
    exact retV C hS () rfl (hP.pick [0] rfl) (hD.sub [0] rfl rfl) (Nat.le_of_ble_eq_true rfl) (Nat.le_of_ble_eq_true rfl) dX11_set_14
  refine lv_aload_n hx hb dX11_set_10 rfl (lv_at hl 0 rfl) ?_
  refine lv_iload_n hx hb dX11_set_11 rfl (lv_at hl 1 rfl) ?_
  refine lv_iload_n hx hb dX11_set_12 rfl (lv_at hl 2 rfl) ?_
  refine va_iast hx hb hK hP hD hS 0 0 rfl rfl (in_of (n := n) hn c1 c2) dX11_set_13 (fun H locs hP hD hS => ?_)
  have hP : va_P g.1 vwCl [(row, .inl (g.2 0, n, .inl (upd f (i.toNatClampNeg) v)))] H := hP
  have hD : va_D A [(row, .inl (g.2 0, n, .inl (upd f (i.toNatClampNeg) v)))] := hD
  have e9 : r_c_set n f i v = (upd f (i.toNatClampNeg) v) := by unfold r_c_set; rw [if_neg c1, if_neg c2]
  have hP : va_P g.1 vwCl [(row, .inl (g.2 0, n, .inl (r_c_set n f i v)))] H := by rw [e9]; exact hP
  have hD : va_D A [(row, .inl (g.2 0, n, .inl (r_c_set n f i v)))] := by rw [e9]; exact hD
  exact retV C hS () rfl (hP.pick [0] rfl) (hD.sub [0] rfl rfl) (Nat.le_of_ble_eq_true rfl) (Nat.le_of_ble_eq_true rfl) dX11_set_14
