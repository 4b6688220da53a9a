theorem hc_X4_add_X0 : ∀ w ∈ wsX00, w ∈ wsX4_add := fun w h => List.mem_cons_of_mem _ (List.mem_append_left _ (List.mem_append_left _ (List.mem_append_right _ h)))
theorem hc_X4_add_X10 : ∀ w ∈ wsX100, w ∈ wsX4_add := fun w h => List.mem_cons_of_mem _ (List.mem_append_right _ h)
theorem hc_X4_add_X2 : ∀ w ∈ wsX20, w ∈ wsX4_add := fun w h => List.mem_cons_of_mem _ (List.mem_append_left _ (List.mem_append_right _ h))
theorem hc_X4_add_X4 : ∀ w ∈ wsX40, w ∈ wsX4_add := fun w h => List.mem_cons_of_mem _ (List.mem_append_left _ (List.mem_append_left _ (List.mem_append_left _ (List.mem_append_right _ h))))
set_option maxRecDepth 100000 in
set_option maxHeartbeats 4000000 in
theorem p_add (l : Launch) (g : Gt) (pl : Nat) (gv : Int32) (lim : Int32) (ca : Nat) (cnt : Int32) (la : Nat) (fc : Nat → Option Nat) (kd : Int32) (ar_ : Int32) (sk_ : Int32) (cs : List Cy) (hcs : CS cs cnt fc) : Ctr l g yX4_add wsX4_add ({ frames := 4, cells := 2, slots := 17, locals := 81 } : Room) [.ref pl, .int kd, .int ar_, .int sk_] ([(pl, .inr (4, [.int gv, .int lim, .ref ca, .int cnt, .ref la])), (ca, .inl (g.2 3, 6, .inr (.inr (.inr (.inr fc)))))] ++ cysW g cs) (fun A => QI g A (fun r (u : Int32 × (Nat → Option Nat) × List Cy) => (r = 0 ∨ r = 1) ∧ (CS u.2.2 u.1 u.2.1) ∧ (PADD cs cnt kd ar_ sk_ r u.2.2 u.1)) (fun (u : Int32 × (Nat → Option Nat) × List Cy) => ([(pl, .inr (4, [.int gv, .int lim, .ref ca, .int u.1, .ref la])), (ca, .inl (g.2 3, 6, .inr (.inr (.inr (.inr u.2.1)))))] ++ cysW g u.2.2))) := by
  refine Ctr.of (cc := cX4_add) (maxL := 4) (ret := (some .boolean)) (by decide) rfl (Nat.le_of_ble_eq_true rfl) ?_
  intro p e s m below meth c A ls H C hP hD hA hS hl
  obtain ⟨hx, hb, hr, hts, hown, hlocks, hml, hin, hKN⟩ := id C
  have hK := hKN.1
  have hN := hKN.2
  have F : CallFix p m c cX4_add 4 s _ wsX4_add yX4_add.cls := ⟨hx, hb, hml, hown, hts⟩
  have hl : lv_has ls 4 [(0, .ref pl), (1, .int kd), (2, .int ar_), (3, .int sk_)] := hl
  refine lv_aload_n hx hb dX4_add_0 rfl (lv_at hl 0 rfl) ?_
  refine va_get (D := g.1) (ci := 4) (v := .int cnt) (C := RX4) (T := TX4) (N := 5) hx hb hts hc_X4_add_X4 hown hK hP 0 rfl rfl 3 (by decide) (hts (.fieldLink RX4 25 "OilPush$Plant" "count" "I") (List.mem_of_getElem? (i := 1) rfl)) (fun _ h => h) rfl dX4_add_1 ?_
  refine lv_if_lt (tgt := 19) hx hb dX4_add_4 (by decide) (fun c1 => ?_) (fun c1 => ?_)
  · refine lv_iconst (v := 0) hx hb dX4_add_19 (by decide) ?_
    exact retZ C rfl hS (cnt, fc, cs) ⟨(Or.inl rfl), hcs, (Or.inl ⟨rfl, rfl, rfl, Or.inl c1⟩)⟩ hP hD (Nat.le_of_ble_eq_true rfl) (Nat.le_of_ble_eq_true rfl) dX4_add_20
  refine lv_aload_n hx hb dX4_add_7 rfl (lv_at hl 0 rfl) ?_
  refine va_get (D := g.1) (ci := 4) (v := .int cnt) (C := RX4) (T := TX4) (N := 5) hx hb hts hc_X4_add_X4 hown hK hP 0 rfl rfl 3 (by decide) (hts (.fieldLink RX4 25 "OilPush$Plant" "count" "I") (List.mem_of_getElem? (i := 1) rfl)) (fun _ h => h) rfl dX4_add_8 ?_
  refine lv_aload_n hx hb dX4_add_11 rfl (lv_at hl 0 rfl) ?_
  refine va_get (D := g.1) (ci := 4) (v := .ref ca) (C := RX4) (T := TX4) (N := 5) hx hb hts hc_X4_add_X4 hown hK hP 0 rfl rfl 2 (by decide) (hts (.fieldLink RX4 17 "OilPush$Plant" "cylinders" "[LOilPush$Cylinder;") (List.mem_of_getElem? (i := 2) rfl)) (fun _ h => h) rfl dX4_add_12 ?_
  refine va_alen (v := 6) hx hb hK hP 1 3 rfl rfl rfl dX4_add_15 ?_
  refine lv_icmp_lt (tgt := 21) hx hb dX4_add_16 (by decide) (fun c2 => ?_) (fun c2 => ?_)
  · refine lv_iload_n hx hb dX4_add_21 rfl (lv_at hl 1 rfl) ?_
    refine lv_if_ne (tgt := 50) hx hb dX4_add_22 (by decide) (fun c3 => ?_) (fun c3 => ?_)
    · refine lv_iload_n hx hb dX4_add_50 rfl (lv_at hl 1 rfl) ?_
      refine lv_iconst (v := 1) hx hb dX4_add_51 (by decide) ?_
      refine lv_icmp_ne (tgt := 80) hx hb dX4_add_52 (by decide) (fun c4 => ?_) (fun c4 => ?_)
      · refine lv_aload_n hx hb dX4_add_80 rfl (lv_at hl 0 rfl) ?_
        refine va_get (D := g.1) (ci := 4) (v := .ref ca) (C := RX4) (T := TX4) (N := 5) hx hb hts hc_X4_add_X4 hown hK hP 0 rfl rfl 2 (by decide) (hts (.fieldLink RX4 17 "OilPush$Plant" "cylinders" "[LOilPush$Cylinder;") (List.mem_of_getElem? (i := 2) rfl)) (fun _ h => h) rfl dX4_add_81 ?_
        refine lv_aload_n hx hb dX4_add_84 rfl (lv_at hl 0 rfl) ?_
        refine va_get (D := g.1) (ci := 4) (v := .int cnt) (C := RX4) (T := TX4) (N := 5) hx hb hts hc_X4_add_X4 hown hK hP 0 rfl rfl 3 (by decide) (hts (.fieldLink RX4 25 "OilPush$Plant" "count" "I") (List.mem_of_getElem? (i := 1) rfl)) (fun _ h => h) rfl dX4_add_85 ?_
        refine va_new (ci := 10) (fs := [.int 0, .int 0, .int 0, .null, .int 0, .int 0, .int 0]) (C := RX10) (T := TX10) (N := 7) hx hb hts hc_X4_add_X10 tyX10 tyX10_ok hown (hts (.classLink RX4 34 RX10) (List.mem_of_getElem? (i := 9) rfl)) (hts (.instantiable RX10 7) (List.mem_of_getElem? (i := 10) rfl)) (hts (.initialized RX10) (List.mem_of_getElem? (i := 11) rfl)) hK hP hD hS hA rfl (nwX10) (Nat.le_of_ble_eq_true rfl) (Nat.le_of_ble_eq_true rfl) dX4_add_88 (fun q5 H hP hD hS => ?_)
        replace hP := hP.swap
        replace hD := hD.swap
        refine W.widen (k := 1) (n := 7) (Nat.le_of_ble_eq_true rfl) (Nat.le_of_ble_eq_true rfl) ?_
        replace hP : va_P g.1 vwCl ([(pl, .inr (4, [.int gv, .int lim, .ref ca, .int cnt, .ref la])), (ca, .inl (g.2 3, 6, .inr (.inr (.inr (.inr fc))))), (q5, .inr (10, [.int 0, .int 0, .int 0, .null, .int 0, .int 0, .int 0]))] ++ cysW g cs) H := hP
        replace hD : va_D A ([(pl, .inr (4, [.int gv, .int lim, .ref ca, .int cnt, .ref la])), (ca, .inl (g.2 3, 6, .inr (.inr (.inr (.inr fc))))), (q5, .inr (10, [.int 0, .int 0, .int 0, .null, .int 0, .int 0, .int 0]))] ++ cysW g cs) := hD
        refine lv_dup hx hb dX4_add_91 rfl ?_
        refine lv_aload_n hx hb dX4_add_92 rfl (lv_at hl 0 rfl) ?_
        refine va_get (D := g.1) (ci := 4) (v := .int cnt) (C := RX4) (T := TX4) (N := 5) hx hb hts hc_X4_add_X4 hown hK hP 0 rfl rfl 3 (by decide) (hts (.fieldLink RX4 25 "OilPush$Plant" "count" "I") (List.mem_of_getElem? (i := 1) rfl)) (fun _ h => h) rfl dX4_add_93 ?_
        refine lv_iload_n hx hb dX4_add_96 rfl (lv_at hl 2 rfl) ?_
        refine lv_iload_n hx hb dX4_add_97 rfl (lv_at hl 3 rfl) ?_
        refine kV (rnI (As := [.int cnt, .int ar_, .int sk_]) (rest := [.ref q5, .int cnt, .ref ca]) C (c_X10_init l g q5 cnt ar_ sk_) 3 gX4_add_X10_init rfl (by decide +kernel) (by decide +kernel) (by decide +kernel) rfl (by decide +kernel) ⟨(Nat.le_of_ble_eq_true rfl), (Nat.le_of_ble_eq_true rfl)⟩ rfl hl.1 rfl (Nat.le_of_ble_eq_true rfl) dX4_add_98 ⟨(Nat.le_of_ble_eq_true rfl), (Nat.le_of_ble_eq_true rfl)⟩) (spB (X := [(pl, .inr (4, [.int gv, .int lim, .ref ca, .int cnt, .ref la])), (ca, .inl (g.2 3, 6, .inr (.inr (.inr (.inr fc))))), (q5, .inr (10, [.int 0, .int 0, .int 0, .null, .int 0, .int 0, .int 0]))]) (pl := cysW g cs) (wr := [(pl, .inr (4, [.int gv, .int lim, .ref ca, .int cnt, .ref la])), (ca, .inl (g.2 3, 6, .inr (.inr (.inr (.inr fc)))))]) hP hD [2] [0, 1] rfl rfl rfl rfl (by decide)) hA hS (fun u6 H locs hw hP hD hS => ?_)
        refine W.widen (k := 2) (n := 17) (Nat.le_of_ble_eq_true rfl) (Nat.le_of_ble_eq_true rfl) ?_
        replace hP : va_P g.1 vwCl ([(pl, .inr (4, [.int gv, .int lim, .ref ca, .int cnt, .ref la])), (ca, .inl (g.2 3, 6, .inr (.inr (.inr (.inr fc))))), (q5, .inr (10, [.int cnt, .int ar_, .int sk_, .ref (u6 0), .int 1, .int 0, .int 1000])), ((u6 0), .inl (g.2 0, 10, .inl z0))] ++ cysW g cs) H := hP
        replace hD : va_D A ([(pl, .inr (4, [.int gv, .int lim, .ref ca, .int cnt, .ref la])), (ca, .inl (g.2 3, 6, .inr (.inr (.inr (.inr fc))))), (q5, .inr (10, [.int cnt, .int ar_, .int sk_, .ref (u6 0), .int 1, .int 0, .int 1000])), ((u6 0), .inl (g.2 0, 10, .inl z0))] ++ cysW g cs) := hD
        refine va_astqO (E := "OilPush$Cylinder") hx hb hK hP hD hS 1 3 2 10 rfl rfl hN.2.2.2.2.1 rfl rfl (in_lt6 c1 c2) dX4_add_101 (fun H locs hP hD hS => ?_)
        replace hP : va_P g.1 vwCl ([(pl, .inr (4, [.int gv, .int lim, .ref ca, .int cnt, .ref la])), (ca, .inl (g.2 3, 6, .inr (.inr (.inr (.inr (va_up fc cnt.toNatClampNeg (some q5))))))), (q5, .inr (10, [.int cnt, .int ar_, .int sk_, .ref (u6 0), .int 1, .int 0, .int 1000])), ((u6 0), .inl (g.2 0, 10, .inl z0))] ++ cysW g cs) H := hP
        replace hD : va_D A ([(pl, .inr (4, [.int gv, .int lim, .ref ca, .int cnt, .ref la])), (ca, .inl (g.2 3, 6, .inr (.inr (.inr (.inr (va_up fc cnt.toNatClampNeg (some q5))))))), (q5, .inr (10, [.int cnt, .int ar_, .int sk_, .ref (u6 0), .int 1, .int 0, .int 1000])), ((u6 0), .inl (g.2 0, 10, .inl z0))] ++ cysW g cs) := hD
        refine lv_aload_n hx hb dX4_add_102 rfl (lv_at hl 0 rfl) ?_
        refine lv_dup hx hb dX4_add_103 rfl ?_
        refine va_get (D := g.1) (ci := 4) (v := .int cnt) (C := RX4) (T := TX4) (N := 5) hx hb hts hc_X4_add_X4 hown hK hP 0 rfl rfl 3 (by decide) (hts (.fieldLink RX4 25 "OilPush$Plant" "count" "I") (List.mem_of_getElem? (i := 1) rfl)) (fun _ h => h) rfl dX4_add_104 ?_
        refine lv_iconst (v := 1) hx hb dX4_add_107 (by decide) ?_
        refine lv_iadd hx hb dX4_add_108 ?_
        refine va_put (D := g.1) (ci := 4) (v := .int (cnt + 1)) (ty := .int) (C := RX4) (T := TX4) (N := 5) hx hb hts hc_X4_add_X4 tyX4 tyX4_ok nmX4 hown hK hP hD hS 0 rfl rfl 3 (by decide) (hts (.fieldLink RX4 25 "OilPush$Plant" "count" "I") (List.mem_of_getElem? (i := 1) rfl)) (fun _ h => h) rfl (by decide +kernel) rfl rfl (Nat.le_of_ble_eq_true rfl) dX4_add_109 (fun H locs hP hD hS => ?_)
        replace hP : va_P g.1 vwCl ([(pl, .inr (4, [.int gv, .int lim, .ref ca, .int (cnt + 1), .ref la])), (ca, .inl (g.2 3, 6, .inr (.inr (.inr (.inr (va_up fc cnt.toNatClampNeg (some q5))))))), (q5, .inr (10, [.int cnt, .int ar_, .int sk_, .ref (u6 0), .int 1, .int 0, .int 1000])), ((u6 0), .inl (g.2 0, 10, .inl z0))] ++ cysW g cs) H := hP
        replace hD : va_D A ([(pl, .inr (4, [.int gv, .int lim, .ref ca, .int (cnt + 1), .ref la])), (ca, .inl (g.2 3, 6, .inr (.inr (.inr (.inr (va_up fc cnt.toNatClampNeg (some q5))))))), (q5, .inr (10, [.int cnt, .int ar_, .int sk_, .ref (u6 0), .int 1, .int 0, .int 1000])), ((u6 0), .inl (g.2 0, 10, .inl z0))] ++ cysW g cs) := hD
        refine lv_iconst (v := 1) hx hb dX4_add_112 (by decide) ?_
        replace hP : va_P g.1 vwCl ([(pl, .inr (4, [.int gv, .int lim, .ref ca, .int (cnt + 1), .ref la])), (ca, .inl (g.2 3, 6, .inr (.inr (.inr (.inr (va_up fc cnt.toNatClampNeg (some q5)))))))] ++ cysW g (cs ++ [(q5, (u6 0), (some true), cnt, ar_, sk_, 1, 0, 1000, z0)])) H := cys_pushP (X := [(pl, .inr (4, [.int gv, .int lim, .ref ca, .int (cnt + 1), .ref la])), (ca, .inl (g.2 3, 6, .inr (.inr (.inr (.inr (va_up fc cnt.toNatClampNeg (some q5)))))))]) (y := (q5, (u6 0), (some true), cnt, ar_, sk_, 1, 0, 1000, z0)) (hP.part [0, 1, 2, 3] rfl)
        replace hD : va_D A ([(pl, .inr (4, [.int gv, .int lim, .ref ca, .int (cnt + 1), .ref la])), (ca, .inl (g.2 3, 6, .inr (.inr (.inr (.inr (va_up fc cnt.toNatClampNeg (some q5)))))))] ++ cysW g (cs ++ [(q5, (u6 0), (some true), cnt, ar_, sk_, 1, 0, 1000, z0)])) := cys_pushD (X := [(pl, .inr (4, [.int gv, .int lim, .ref ca, .int (cnt + 1), .ref la])), (ca, .inl (g.2 3, 6, .inr (.inr (.inr (.inr (va_up fc cnt.toNatClampNeg (some q5)))))))]) (y := (q5, (u6 0), (some true), cnt, ar_, sk_, 1, 0, 1000, z0)) (hD.part [0, 1, 2, 3] rfl rfl)
        exact retZ C rfl hS ((cnt + 1), (va_up fc cnt.toNatClampNeg (some q5)), (cs ++ [(q5, (u6 0), (some true), cnt, ar_, sk_, 1, 0, 1000, z0)])) ⟨(Or.inr rfl), (CS_push hcs c2), (Or.inr ⟨rfl, c2, rfl, q5, (u6 0), by unfold ckOf; rw [if_neg c3, if_neg c4]⟩)⟩ hP hD (Nat.le_of_ble_eq_true rfl) (Nat.le_of_ble_eq_true rfl) dX4_add_113
      refine lv_aload_n hx hb dX4_add_55 rfl (lv_at hl 0 rfl) ?_
      refine va_get (D := g.1) (ci := 4) (v := .ref ca) (C := RX4) (T := TX4) (N := 5) hx hb hts hc_X4_add_X4 hown hK hP 0 rfl rfl 2 (by decide) (hts (.fieldLink RX4 17 "OilPush$Plant" "cylinders" "[LOilPush$Cylinder;") (List.mem_of_getElem? (i := 2) rfl)) (fun _ h => h) rfl dX4_add_56 ?_
      refine lv_aload_n hx hb dX4_add_59 rfl (lv_at hl 0 rfl) ?_
      refine va_get (D := g.1) (ci := 4) (v := .int cnt) (C := RX4) (T := TX4) (N := 5) hx hb hts hc_X4_add_X4 hown hK hP 0 rfl rfl 3 (by decide) (hts (.fieldLink RX4 25 "OilPush$Plant" "count" "I") (List.mem_of_getElem? (i := 1) rfl)) (fun _ h => h) rfl dX4_add_60 ?_
      refine va_new (ci := 2) (fs := [.int 0, .int 0, .int 0, .null, .int 0, .int 0, .int 0]) (C := RX2) (T := TX2) (N := 7) hx hb hts hc_X4_add_X2 tyX2 tyX2_ok hown (hts (.classLink RX4 31 RX2) (List.mem_of_getElem? (i := 6) rfl)) (hts (.instantiable RX2 7) (List.mem_of_getElem? (i := 7) rfl)) (hts (.initialized RX2) (List.mem_of_getElem? (i := 8) rfl)) hK hP hD hS hA rfl (nwX2) (Nat.le_of_ble_eq_true rfl) (Nat.le_of_ble_eq_true rfl) dX4_add_63 (fun q7 H hP hD hS => ?_)
      replace hP := hP.swap
      replace hD := hD.swap
      refine W.widen (k := 1) (n := 7) (Nat.le_of_ble_eq_true rfl) (Nat.le_of_ble_eq_true rfl) ?_
      replace hP : va_P g.1 vwCl ([(pl, .inr (4, [.int gv, .int lim, .ref ca, .int cnt, .ref la])), (ca, .inl (g.2 3, 6, .inr (.inr (.inr (.inr fc))))), (q7, .inr (2, [.int 0, .int 0, .int 0, .null, .int 0, .int 0, .int 0]))] ++ cysW g cs) H := hP
      replace hD : va_D A ([(pl, .inr (4, [.int gv, .int lim, .ref ca, .int cnt, .ref la])), (ca, .inl (g.2 3, 6, .inr (.inr (.inr (.inr fc))))), (q7, .inr (2, [.int 0, .int 0, .int 0, .null, .int 0, .int 0, .int 0]))] ++ cysW g cs) := hD
      refine lv_dup hx hb dX4_add_66 rfl ?_
      refine lv_aload_n hx hb dX4_add_67 rfl (lv_at hl 0 rfl) ?_
      refine va_get (D := g.1) (ci := 4) (v := .int cnt) (C := RX4) (T := TX4) (N := 5) hx hb hts hc_X4_add_X4 hown hK hP 0 rfl rfl 3 (by decide) (hts (.fieldLink RX4 25 "OilPush$Plant" "count" "I") (List.mem_of_getElem? (i := 1) rfl)) (fun _ h => h) rfl dX4_add_68 ?_
      refine lv_iload_n hx hb dX4_add_71 rfl (lv_at hl 2 rfl) ?_
      refine lv_iload_n hx hb dX4_add_72 rfl (lv_at hl 3 rfl) ?_
      refine kV (rnI (As := [.int cnt, .int ar_, .int sk_]) (rest := [.ref q7, .int cnt, .ref ca]) C (c_X2_init_X2 l g q7 cnt ar_ sk_) 3 gX4_add_X2_init rfl (by decide +kernel) (by decide +kernel) (by decide +kernel) rfl (by decide +kernel) ⟨(Nat.le_of_ble_eq_true rfl), (Nat.le_of_ble_eq_true rfl)⟩ rfl hl.1 rfl (Nat.le_of_ble_eq_true rfl) dX4_add_73 ⟨(Nat.le_of_ble_eq_true rfl), (Nat.le_of_ble_eq_true rfl)⟩) (spB (X := [(pl, .inr (4, [.int gv, .int lim, .ref ca, .int cnt, .ref la])), (ca, .inl (g.2 3, 6, .inr (.inr (.inr (.inr fc))))), (q7, .inr (2, [.int 0, .int 0, .int 0, .null, .int 0, .int 0, .int 0]))]) (pl := cysW g cs) (wr := [(pl, .inr (4, [.int gv, .int lim, .ref ca, .int cnt, .ref la])), (ca, .inl (g.2 3, 6, .inr (.inr (.inr (.inr fc)))))]) hP hD [2] [0, 1] rfl rfl rfl rfl (by decide)) hA hS (fun u8 H locs hw hP hD hS => ?_)
      refine W.widen (k := 2) (n := 17) (Nat.le_of_ble_eq_true rfl) (Nat.le_of_ble_eq_true rfl) ?_
      replace hP : va_P g.1 vwCl ([(pl, .inr (4, [.int gv, .int lim, .ref ca, .int cnt, .ref la])), (ca, .inl (g.2 3, 6, .inr (.inr (.inr (.inr fc))))), (q7, .inr (2, [.int cnt, .int ar_, .int sk_, .ref (u8 0), .int 1, .int 0, .int 1000])), ((u8 0), .inl (g.2 0, 10, .inl z0))] ++ cysW g cs) H := hP
      replace hD : va_D A ([(pl, .inr (4, [.int gv, .int lim, .ref ca, .int cnt, .ref la])), (ca, .inl (g.2 3, 6, .inr (.inr (.inr (.inr fc))))), (q7, .inr (2, [.int cnt, .int ar_, .int sk_, .ref (u8 0), .int 1, .int 0, .int 1000])), ((u8 0), .inl (g.2 0, 10, .inl z0))] ++ cysW g cs) := hD
      refine va_astqO (E := "OilPush$Cylinder") hx hb hK hP hD hS 1 3 2 2 rfl rfl hN.2.2.2.1 rfl rfl (in_lt6 c1 c2) dX4_add_76 (fun H locs hP hD hS => ?_)
      replace hP : va_P g.1 vwCl ([(pl, .inr (4, [.int gv, .int lim, .ref ca, .int cnt, .ref la])), (ca, .inl (g.2 3, 6, .inr (.inr (.inr (.inr (va_up fc cnt.toNatClampNeg (some q7))))))), (q7, .inr (2, [.int cnt, .int ar_, .int sk_, .ref (u8 0), .int 1, .int 0, .int 1000])), ((u8 0), .inl (g.2 0, 10, .inl z0))] ++ cysW g cs) H := hP
      replace hD : va_D A ([(pl, .inr (4, [.int gv, .int lim, .ref ca, .int cnt, .ref la])), (ca, .inl (g.2 3, 6, .inr (.inr (.inr (.inr (va_up fc cnt.toNatClampNeg (some q7))))))), (q7, .inr (2, [.int cnt, .int ar_, .int sk_, .ref (u8 0), .int 1, .int 0, .int 1000])), ((u8 0), .inl (g.2 0, 10, .inl z0))] ++ cysW g cs) := hD
      refine lv_goto (tgt := 102) hx hb dX4_add_77 (by decide) ?_
      refine lv_aload_n hx hb dX4_add_102 rfl (lv_at hl 0 rfl) ?_
      refine lv_dup hx hb dX4_add_103 rfl ?_
      refine va_get (D := g.1) (ci := 4) (v := .int cnt) (C := RX4) (T := TX4) (N := 5) hx hb hts hc_X4_add_X4 hown hK hP 0 rfl rfl 3 (by decide) (hts (.fieldLink RX4 25 "OilPush$Plant" "count" "I") (List.mem_of_getElem? (i := 1) rfl)) (fun _ h => h) rfl dX4_add_104 ?_
      refine lv_iconst (v := 1) hx hb dX4_add_107 (by decide) ?_
      refine lv_iadd hx hb dX4_add_108 ?_
      refine va_put (D := g.1) (ci := 4) (v := .int (cnt + 1)) (ty := .int) (C := RX4) (T := TX4) (N := 5) hx hb hts hc_X4_add_X4 tyX4 tyX4_ok nmX4 hown hK hP hD hS 0 rfl rfl 3 (by decide) (hts (.fieldLink RX4 25 "OilPush$Plant" "count" "I") (List.mem_of_getElem? (i := 1) rfl)) (fun _ h => h) rfl (by decide +kernel) rfl rfl (Nat.le_of_ble_eq_true rfl) dX4_add_109 (fun H locs hP hD hS => ?_)
      replace hP : va_P g.1 vwCl ([(pl, .inr (4, [.int gv, .int lim, .ref ca, .int (cnt + 1), .ref la])), (ca, .inl (g.2 3, 6, .inr (.inr (.inr (.inr (va_up fc cnt.toNatClampNeg (some q7))))))), (q7, .inr (2, [.int cnt, .int ar_, .int sk_, .ref (u8 0), .int 1, .int 0, .int 1000])), ((u8 0), .inl (g.2 0, 10, .inl z0))] ++ cysW g cs) H := hP
      replace hD : va_D A ([(pl, .inr (4, [.int gv, .int lim, .ref ca, .int (cnt + 1), .ref la])), (ca, .inl (g.2 3, 6, .inr (.inr (.inr (.inr (va_up fc cnt.toNatClampNeg (some q7))))))), (q7, .inr (2, [.int cnt, .int ar_, .int sk_, .ref (u8 0), .int 1, .int 0, .int 1000])), ((u8 0), .inl (g.2 0, 10, .inl z0))] ++ cysW g cs) := hD
      refine lv_iconst (v := 1) hx hb dX4_add_112 (by decide) ?_
      replace hP : va_P g.1 vwCl ([(pl, .inr (4, [.int gv, .int lim, .ref ca, .int (cnt + 1), .ref la])), (ca, .inl (g.2 3, 6, .inr (.inr (.inr (.inr (va_up fc cnt.toNatClampNeg (some q7)))))))] ++ cysW g (cs ++ [(q7, (u8 0), (some false), cnt, ar_, sk_, 1, 0, 1000, z0)])) H := cys_pushP (X := [(pl, .inr (4, [.int gv, .int lim, .ref ca, .int (cnt + 1), .ref la])), (ca, .inl (g.2 3, 6, .inr (.inr (.inr (.inr (va_up fc cnt.toNatClampNeg (some q7)))))))]) (y := (q7, (u8 0), (some false), cnt, ar_, sk_, 1, 0, 1000, z0)) (hP.part [0, 1, 2, 3] rfl)
      replace hD : va_D A ([(pl, .inr (4, [.int gv, .int lim, .ref ca, .int (cnt + 1), .ref la])), (ca, .inl (g.2 3, 6, .inr (.inr (.inr (.inr (va_up fc cnt.toNatClampNeg (some q7)))))))] ++ cysW g (cs ++ [(q7, (u8 0), (some false), cnt, ar_, sk_, 1, 0, 1000, z0)])) := cys_pushD (X := [(pl, .inr (4, [.int gv, .int lim, .ref ca, .int (cnt + 1), .ref la])), (ca, .inl (g.2 3, 6, .inr (.inr (.inr (.inr (va_up fc cnt.toNatClampNeg (some q7)))))))]) (y := (q7, (u8 0), (some false), cnt, ar_, sk_, 1, 0, 1000, z0)) (hD.part [0, 1, 2, 3] rfl rfl)
      exact retZ C rfl hS ((cnt + 1), (va_up fc cnt.toNatClampNeg (some q7)), (cs ++ [(q7, (u8 0), (some false), cnt, ar_, sk_, 1, 0, 1000, z0)])) ⟨(Or.inr rfl), (CS_push hcs c2), (Or.inr ⟨rfl, c2, rfl, q7, (u8 0), by unfold ckOf; rw [if_neg c3, if_pos c4]⟩)⟩ hP hD (Nat.le_of_ble_eq_true rfl) (Nat.le_of_ble_eq_true rfl) dX4_add_113
    refine lv_aload_n hx hb dX4_add_25 rfl (lv_at hl 0 rfl) ?_
    refine va_get (D := g.1) (ci := 4) (v := .ref ca) (C := RX4) (T := TX4) (N := 5) hx hb hts hc_X4_add_X4 hown hK hP 0 rfl rfl 2 (by decide) (hts (.fieldLink RX4 17 "OilPush$Plant" "cylinders" "[LOilPush$Cylinder;") (List.mem_of_getElem? (i := 2) rfl)) (fun _ h => h) rfl dX4_add_26 ?_
    refine lv_aload_n hx hb dX4_add_29 rfl (lv_at hl 0 rfl) ?_
    refine va_get (D := g.1) (ci := 4) (v := .int cnt) (C := RX4) (T := TX4) (N := 5) hx hb hts hc_X4_add_X4 hown hK hP 0 rfl rfl 3 (by decide) (hts (.fieldLink RX4 25 "OilPush$Plant" "count" "I") (List.mem_of_getElem? (i := 1) rfl)) (fun _ h => h) rfl dX4_add_30 ?_
    refine va_new (ci := 0) (fs := [.int 0, .int 0, .int 0, .null, .int 0, .int 0, .int 0]) (C := RX0) (T := TX0) (N := 7) hx hb hts hc_X4_add_X0 tyX0 tyX0_ok hown (hts (.classLink RX4 15 RX0) (List.mem_of_getElem? (i := 3) rfl)) (hts (.instantiable RX0 7) (List.mem_of_getElem? (i := 4) rfl)) (hts (.initialized RX0) (List.mem_of_getElem? (i := 5) rfl)) hK hP hD hS hA rfl (nwX0) (Nat.le_of_ble_eq_true rfl) (Nat.le_of_ble_eq_true rfl) dX4_add_33 (fun q9 H hP hD hS => ?_)
    replace hP := hP.swap
    replace hD := hD.swap
    refine W.widen (k := 1) (n := 7) (Nat.le_of_ble_eq_true rfl) (Nat.le_of_ble_eq_true rfl) ?_
    replace hP : va_P g.1 vwCl ([(pl, .inr (4, [.int gv, .int lim, .ref ca, .int cnt, .ref la])), (ca, .inl (g.2 3, 6, .inr (.inr (.inr (.inr fc))))), (q9, .inr (0, [.int 0, .int 0, .int 0, .null, .int 0, .int 0, .int 0]))] ++ cysW g cs) H := hP
    replace hD : va_D A ([(pl, .inr (4, [.int gv, .int lim, .ref ca, .int cnt, .ref la])), (ca, .inl (g.2 3, 6, .inr (.inr (.inr (.inr fc))))), (q9, .inr (0, [.int 0, .int 0, .int 0, .null, .int 0, .int 0, .int 0]))] ++ cysW g cs) := hD
    refine lv_dup hx hb dX4_add_36 rfl ?_
    refine lv_aload_n hx hb dX4_add_37 rfl (lv_at hl 0 rfl) ?_
    refine va_get (D := g.1) (ci := 4) (v := .int cnt) (C := RX4) (T := TX4) (N := 5) hx hb hts hc_X4_add_X4 hown hK hP 0 rfl rfl 3 (by decide) (hts (.fieldLink RX4 25 "OilPush$Plant" "count" "I") (List.mem_of_getElem? (i := 1) rfl)) (fun _ h => h) rfl dX4_add_38 ?_
    refine lv_iload_n hx hb dX4_add_41 rfl (lv_at hl 2 rfl) ?_
    refine lv_iload_n hx hb dX4_add_42 rfl (lv_at hl 3 rfl) ?_
    refine kV (rnI (As := [.int cnt, .int ar_, .int sk_]) (rest := [.ref q9, .int cnt, .ref ca]) C (c_X0_init_X0 l g q9 cnt ar_ sk_) 3 gX4_add_X0_init rfl (by decide +kernel) (by decide +kernel) (by decide +kernel) rfl (by decide +kernel) ⟨(Nat.le_of_ble_eq_true rfl), (Nat.le_of_ble_eq_true rfl)⟩ rfl hl.1 rfl (Nat.le_of_ble_eq_true rfl) dX4_add_43 ⟨(Nat.le_of_ble_eq_true rfl), (Nat.le_of_ble_eq_true rfl)⟩) (spB (X := [(pl, .inr (4, [.int gv, .int lim, .ref ca, .int cnt, .ref la])), (ca, .inl (g.2 3, 6, .inr (.inr (.inr (.inr fc))))), (q9, .inr (0, [.int 0, .int 0, .int 0, .null, .int 0, .int 0, .int 0]))]) (pl := cysW g cs) (wr := [(pl, .inr (4, [.int gv, .int lim, .ref ca, .int cnt, .ref la])), (ca, .inl (g.2 3, 6, .inr (.inr (.inr (.inr fc)))))]) hP hD [2] [0, 1] rfl rfl rfl rfl (by decide)) hA hS (fun u10 H locs hw hP hD hS => ?_)
    refine W.widen (k := 2) (n := 17) (Nat.le_of_ble_eq_true rfl) (Nat.le_of_ble_eq_true rfl) ?_
    replace hP : va_P g.1 vwCl ([(pl, .inr (4, [.int gv, .int lim, .ref ca, .int cnt, .ref la])), (ca, .inl (g.2 3, 6, .inr (.inr (.inr (.inr fc))))), (q9, .inr (0, [.int cnt, .int ar_, .int sk_, .ref (u10 0), .int 1, .int 0, .int 1000])), ((u10 0), .inl (g.2 0, 10, .inl z0))] ++ cysW g cs) H := hP
    replace hD : va_D A ([(pl, .inr (4, [.int gv, .int lim, .ref ca, .int cnt, .ref la])), (ca, .inl (g.2 3, 6, .inr (.inr (.inr (.inr fc))))), (q9, .inr (0, [.int cnt, .int ar_, .int sk_, .ref (u10 0), .int 1, .int 0, .int 1000])), ((u10 0), .inl (g.2 0, 10, .inl z0))] ++ cysW g cs) := hD
    refine va_astq hx hb hK hP hD hS 1 3 2 0 rfl rfl rfl rfl (in_lt6 c1 c2) dX4_add_46 (fun H locs hP hD hS => ?_)
    replace hP : va_P g.1 vwCl ([(pl, .inr (4, [.int gv, .int lim, .ref ca, .int cnt, .ref la])), (ca, .inl (g.2 3, 6, .inr (.inr (.inr (.inr (va_up fc cnt.toNatClampNeg (some q9))))))), (q9, .inr (0, [.int cnt, .int ar_, .int sk_, .ref (u10 0), .int 1, .int 0, .int 1000])), ((u10 0), .inl (g.2 0, 10, .inl z0))] ++ cysW g cs) H := hP
    replace hD : va_D A ([(pl, .inr (4, [.int gv, .int lim, .ref ca, .int cnt, .ref la])), (ca, .inl (g.2 3, 6, .inr (.inr (.inr (.inr (va_up fc cnt.toNatClampNeg (some q9))))))), (q9, .inr (0, [.int cnt, .int ar_, .int sk_, .ref (u10 0), .int 1, .int 0, .int 1000])), ((u10 0), .inl (g.2 0, 10, .inl z0))] ++ cysW g cs) := hD
    refine lv_goto (tgt := 102) hx hb dX4_add_47 (by decide) ?_
    refine lv_aload_n hx hb dX4_add_102 rfl (lv_at hl 0 rfl) ?_
    refine lv_dup hx hb dX4_add_103 rfl ?_
    refine va_get (D := g.1) (ci := 4) (v := .int cnt) (C := RX4) (T := TX4) (N := 5) hx hb hts hc_X4_add_X4 hown hK hP 0 rfl rfl 3 (by decide) (hts (.fieldLink RX4 25 "OilPush$Plant" "count" "I") (List.mem_of_getElem? (i := 1) rfl)) (fun _ h => h) rfl dX4_add_104 ?_
    refine lv_iconst (v := 1) hx hb dX4_add_107 (by decide) ?_
    refine lv_iadd hx hb dX4_add_108 ?_
    refine va_put (D := g.1) (ci := 4) (v := .int (cnt + 1)) (ty := .int) (C := RX4) (T := TX4) (N := 5) hx hb hts hc_X4_add_X4 tyX4 tyX4_ok nmX4 hown hK hP hD hS 0 rfl rfl 3 (by decide) (hts (.fieldLink RX4 25 "OilPush$Plant" "count" "I") (List.mem_of_getElem? (i := 1) rfl)) (fun _ h => h) rfl (by decide +kernel) rfl rfl (Nat.le_of_ble_eq_true rfl) dX4_add_109 (fun H locs hP hD hS => ?_)
    replace hP : va_P g.1 vwCl ([(pl, .inr (4, [.int gv, .int lim, .ref ca, .int (cnt + 1), .ref la])), (ca, .inl (g.2 3, 6, .inr (.inr (.inr (.inr (va_up fc cnt.toNatClampNeg (some q9))))))), (q9, .inr (0, [.int cnt, .int ar_, .int sk_, .ref (u10 0), .int 1, .int 0, .int 1000])), ((u10 0), .inl (g.2 0, 10, .inl z0))] ++ cysW g cs) H := hP
    replace hD : va_D A ([(pl, .inr (4, [.int gv, .int lim, .ref ca, .int (cnt + 1), .ref la])), (ca, .inl (g.2 3, 6, .inr (.inr (.inr (.inr (va_up fc cnt.toNatClampNeg (some q9))))))), (q9, .inr (0, [.int cnt, .int ar_, .int sk_, .ref (u10 0), .int 1, .int 0, .int 1000])), ((u10 0), .inl (g.2 0, 10, .inl z0))] ++ cysW g cs) := hD
    refine lv_iconst (v := 1) hx hb dX4_add_112 (by decide) ?_
    replace hP : va_P g.1 vwCl ([(pl, .inr (4, [.int gv, .int lim, .ref ca, .int (cnt + 1), .ref la])), (ca, .inl (g.2 3, 6, .inr (.inr (.inr (.inr (va_up fc cnt.toNatClampNeg (some q9)))))))] ++ cysW g (cs ++ [(q9, (u10 0), none, cnt, ar_, sk_, 1, 0, 1000, z0)])) H := cys_pushP (X := [(pl, .inr (4, [.int gv, .int lim, .ref ca, .int (cnt + 1), .ref la])), (ca, .inl (g.2 3, 6, .inr (.inr (.inr (.inr (va_up fc cnt.toNatClampNeg (some q9)))))))]) (y := (q9, (u10 0), none, cnt, ar_, sk_, 1, 0, 1000, z0)) (hP.part [0, 1, 2, 3] rfl)
    replace hD : va_D A ([(pl, .inr (4, [.int gv, .int lim, .ref ca, .int (cnt + 1), .ref la])), (ca, .inl (g.2 3, 6, .inr (.inr (.inr (.inr (va_up fc cnt.toNatClampNeg (some q9)))))))] ++ cysW g (cs ++ [(q9, (u10 0), none, cnt, ar_, sk_, 1, 0, 1000, z0)])) := cys_pushD (X := [(pl, .inr (4, [.int gv, .int lim, .ref ca, .int (cnt + 1), .ref la])), (ca, .inl (g.2 3, 6, .inr (.inr (.inr (.inr (va_up fc cnt.toNatClampNeg (some q9)))))))]) (y := (q9, (u10 0), none, cnt, ar_, sk_, 1, 0, 1000, z0)) (hD.part [0, 1, 2, 3] rfl rfl)
    exact retZ C rfl hS ((cnt + 1), (va_up fc cnt.toNatClampNeg (some q9)), (cs ++ [(q9, (u10 0), none, cnt, ar_, sk_, 1, 0, 1000, z0)])) ⟨(Or.inr rfl), (CS_push hcs c2), (Or.inr ⟨rfl, c2, rfl, q9, (u10 0), by unfold ckOf; rw [if_pos c3]⟩)⟩ hP hD (Nat.le_of_ble_eq_true rfl) (Nat.le_of_ble_eq_true rfl) dX4_add_113
  refine lv_iconst (v := 0) hx hb dX4_add_19 (by decide) ?_
  exact retZ C rfl hS (cnt, fc, cs) ⟨(Or.inl rfl), hcs, (Or.inl ⟨rfl, rfl, rfl, Or.inr c2⟩)⟩ hP hD (Nat.le_of_ble_eq_true rfl) (Nat.le_of_ble_eq_true rfl) dX4_add_20
theorem hc_X11_cylinder_X11 : ∀ w ∈ wsX110, w ∈ wsX11_cylinder := fun w h => List.mem_cons_of_mem _ (List.mem_append_left _ (List.mem_append_left _ (List.mem_append_left _ (List.mem_append_left _ (List.mem_append_right _ h)))))
theorem hc_X11_cylinder_X4 : ∀ w ∈ wsX40, w ∈ wsX11_cylinder := fun w h => List.mem_cons_of_mem _ (List.mem_append_left _ (List.mem_append_left _ (List.mem_append_left _ (List.mem_append_right _ h))))
set_option maxRecDepth 100000 in
set_option maxHeartbeats 4000000 in
theorem x_cylinder (l : Launch) (g : Gt) (h0 : Nat) (sha : Nat) (tra : Nat) (lf : Int32) (std : Int32) (tkd : Int32) (tck : Int32) (sa : Nat) (ea : Nat) (oa : Nat) (tsa : Nat) (usa : Nat) (vea : Nat) (lka : Nat) (ra : Nat) (pl : Nat) (gv : Int32) (lim : Int32) (ca : Nat) (cnt : Int32) (la : Nat) (fc : Nat → Option Nat) (kd : Int32) (ar_ : Int32) (sk_ : Int32) (cs : List Cy) (hcs : CS cs cnt fc) : Ctr l g yX11_cylinder wsX11_cylinder ({ frames := 5, cells := 2, slots := 17, locals := 104 } : Room) [.ref h0, .int kd, .int ar_, .int sk_] ([(h0, .inr (11, [.ref pl, .ref sa, .ref ea, .ref oa, .ref tsa, .ref usa, .ref vea, .ref lka, .ref ra, .ref sha, .ref tra, .int lf, .int std, .int tkd, .int tck])), (pl, .inr (4, [.int gv, .int lim, .ref ca, .int cnt, .ref la])), (ca, .inl (g.2 3, 6, .inr (.inr (.inr (.inr fc)))))] ++ cysW g cs) (fun A => QI g A (fun r (u : Int32 × (Nat → Option Nat) × List Cy) => (CS u.2.2 u.1 u.2.1) ∧ (SCYL cs cnt kd ar_ sk_ r u.2.2 u.1)) (fun (u : Int32 × (Nat → Option Nat) × List Cy) => ([(h0, .inr (11, [.ref pl, .ref sa, .ref ea, .ref oa, .ref tsa, .ref usa, .ref vea, .ref lka, .ref ra, .ref sha, .ref tra, .int lf, .int std, .int tkd, .int tck])), (pl, .inr (4, [.int gv, .int lim, .ref ca, .int u.1, .ref la])), (ca, .inl (g.2 3, 6, .inr (.inr (.inr (.inr u.2.1)))))] ++ cysW g u.2.2))) := by
  refine Ctr.of (cc := cX11_cylinder) (maxL := 4) (ret := (some .int)) (by decide) rfl (Nat.le_of_ble_eq_true rfl) ?_
  intro p e s m below meth c A ls H C hP hD hA hS hl
  obtain ⟨hx, hb, hr, hts, hown, hlocks, hml, hin, hKN⟩ := id C
  have hK := hKN.1
  have hN := hKN.2
  have F : CallFix p m c cX11_cylinder 4 s _ wsX11_cylinder yX11_cylinder.cls := ⟨hx, hb, hml, hown, hts⟩
  have hl : lv_has ls 4 [(0, .ref h0), (1, .int kd), (2, .int ar_), (3, .int sk_)] := hl
  refine lv_iload_n hx hb dX11_cylinder_0 rfl (lv_at hl 1 rfl) ?_
  refine lv_iconst (v := 0) hx hb dX11_cylinder_1 (by decide) ?_
  refine lv_iconst (v := 2) hx hb dX11_cylinder_2 (by decide) ?_
  refine pureIS (As := [.int kd, .int 0, .int 2]) (rest := []) F (c_within l kd 0 2) 3 gX11_cylinder_X11_within rfl (by decide +kernel) rfl rfl ⟨(Nat.le_of_ble_eq_true rfl), (Nat.le_of_ble_eq_true rfl)⟩ (Nat.le_of_ble_eq_true rfl) (Nat.le_of_ble_eq_true rfl) rfl hl.1 rfl (Nat.le_of_ble_eq_true rfl) dX11_cylinder_3 ?_
  refine lv_if_eq (tgt := 29) hx hb dX11_cylinder_6 (by decide) (fun c1 => ?_) (fun c1 => ?_)
  · refine lv_bipush (v := -2) hx hb dX11_cylinder_29 (by decide) ?_
    exact retI C hS (cnt, fc, cs) ⟨hcs, (scyl_bad (Or.inl c1))⟩ hP hD (Nat.le_of_ble_eq_true rfl) (Nat.le_of_ble_eq_true rfl) dX11_cylinder_31
  refine lv_iload_n hx hb dX11_cylinder_9 rfl (lv_at hl 2 rfl) ?_
  refine lv_iconst (v := 1) hx hb dX11_cylinder_10 (by decide) ?_
  refine lv_bipush (v := 100) hx hb dX11_cylinder_11 (by decide) ?_
  refine pureIS (As := [.int ar_, .int 1, .int 100]) (rest := []) F (c_within l ar_ 1 100) 3 gX11_cylinder_X11_within rfl (by decide +kernel) rfl rfl ⟨(Nat.le_of_ble_eq_true rfl), (Nat.le_of_ble_eq_true rfl)⟩ (Nat.le_of_ble_eq_true rfl) (Nat.le_of_ble_eq_true rfl) rfl hl.1 rfl (Nat.le_of_ble_eq_true rfl) dX11_cylinder_13 ?_
  refine lv_if_eq (tgt := 29) hx hb dX11_cylinder_16 (by decide) (fun c2 => ?_) (fun c2 => ?_)
  · refine lv_bipush (v := -2) hx hb dX11_cylinder_29 (by decide) ?_
    exact retI C hS (cnt, fc, cs) ⟨hcs, (scyl_bad (Or.inr (Or.inl c2)))⟩ hP hD (Nat.le_of_ble_eq_true rfl) (Nat.le_of_ble_eq_true rfl) dX11_cylinder_31
  refine lv_iload_n hx hb dX11_cylinder_19 rfl (lv_at hl 3 rfl) ?_
  refine lv_iconst (v := 1) hx hb dX11_cylinder_20 (by decide) ?_
  refine lv_bipush (v := 100) hx hb dX11_cylinder_21 (by decide) ?_
  refine pureIS (As := [.int sk_, .int 1, .int 100]) (rest := []) F (c_within l sk_ 1 100) 3 gX11_cylinder_X11_within rfl (by decide +kernel) rfl rfl ⟨(Nat.le_of_ble_eq_true rfl), (Nat.le_of_ble_eq_true rfl)⟩ (Nat.le_of_ble_eq_true rfl) (Nat.le_of_ble_eq_true rfl) rfl hl.1 rfl (Nat.le_of_ble_eq_true rfl) dX11_cylinder_23 ?_
  refine lv_if_ne (tgt := 32) hx hb dX11_cylinder_26 (by decide) (fun c3 => ?_) (fun c3 => ?_)
  · refine lv_aload_n hx hb dX11_cylinder_32 rfl (lv_at hl 0 rfl) ?_
    refine va_get (D := g.1) (ci := 11) (v := .ref pl) (C := RX11) (T := TX11) (N := 15) hx hb hts hc_X11_cylinder_X11 hown hK hP 0 rfl rfl 0 (by decide) (hts (.fieldLink RX11 12 "OilPush" "plant" "LOilPush$Plant;") (List.mem_of_getElem? (i := 1) rfl)) (fun _ h => h) rfl dX11_cylinder_33 ?_
    refine lv_iload_n hx hb dX11_cylinder_36 rfl (lv_at hl 1 rfl) ?_
    refine lv_iload_n hx hb dX11_cylinder_37 rfl (lv_at hl 2 rfl) ?_
    refine lv_iload_n hx hb dX11_cylinder_38 rfl (lv_at hl 3 rfl) ?_
    refine kI (rnV (As := [.int kd, .int ar_, .int sk_]) (rest := []) (Cn := RX4) C (p_add l g pl gv lim ca cnt la fc kd ar_ sk_ cs hcs) 3 gX11_cylinder_X4_add rfl (by decide +kernel) ⟨(Nat.le_of_ble_eq_true rfl), (Nat.le_of_ble_eq_true rfl)⟩ hP (k := 1) (ci := 4) rfl rfl rfl rfl hl.1 rfl (Nat.le_of_ble_eq_true rfl) dX11_cylinder_39 ⟨(Nat.le_of_ble_eq_true rfl), (Nat.le_of_ble_eq_true rfl)⟩) (spMC (X := [(h0, .inr (11, [.ref pl, .ref sa, .ref ea, .ref oa, .ref tsa, .ref usa, .ref vea, .ref lka, .ref ra, .ref sha, .ref tra, .int lf, .int std, .int tkd, .int tck])), (pl, .inr (4, [.int gv, .int lim, .ref ca, .int cnt, .ref la])), (ca, .inl (g.2 3, 6, .inr (.inr (.inr (.inr fc)))))]) (pl := cysW g cs) [false, true, true] hP hD rfl) hA hS (fun r4 u5 H locs hw hP hD hS => ?_)
    obtain ⟨x6, x7, x8⟩ := u5
    obtain ⟨f9, f10, f11⟩ := hw
    refine W.widen (k := 2) (n := 17) (Nat.le_of_ble_eq_true rfl) (Nat.le_of_ble_eq_true rfl) ?_
    replace hP : va_P g.1 vwCl ([(h0, .inr (11, [.ref pl, .ref sa, .ref ea, .ref oa, .ref tsa, .ref usa, .ref vea, .ref lka, .ref ra, .ref sha, .ref tra, .int lf, .int std, .int tkd, .int tck])), (pl, .inr (4, [.int gv, .int lim, .ref ca, .int x6, .ref la])), (ca, .inl (g.2 3, 6, .inr (.inr (.inr (.inr x7)))))] ++ cysW g x8) H := hP
    replace hD : va_D A ([(h0, .inr (11, [.ref pl, .ref sa, .ref ea, .ref oa, .ref tsa, .ref usa, .ref vea, .ref lka, .ref ra, .ref sha, .ref tra, .int lf, .int std, .int tkd, .int tck])), (pl, .inr (4, [.int gv, .int lim, .ref ca, .int x6, .ref la])), (ca, .inl (g.2 3, 6, .inr (.inr (.inr (.inr x7)))))] ++ cysW g x8) := hD
    replace f9 : r4 = 0 ∨ r4 = 1 := f9
    replace f10 : CS x8 x6 x7 := f10
    replace f11 : PADD cs cnt kd ar_ sk_ r4 x8 x6 := f11
    refine lv_if_eq (tgt := 57) hx hb dX11_cylinder_42 (by decide) (fun c12 => ?_) (fun c12 => ?_)
    · refine lv_bipush (v := -4) hx hb dX11_cylinder_57 (by decide) ?_
      exact retI C hS (x6, x7, x8) ⟨f10, (scyl_full (fun e9 => e9.elim c1 (fun e9 => e9.elim c2 c3)) hcs f11 c12)⟩ hP hD (Nat.le_of_ble_eq_true rfl) (Nat.le_of_ble_eq_true rfl) dX11_cylinder_59
    refine lv_aload_n hx hb dX11_cylinder_45 rfl (lv_at hl 0 rfl) ?_
    refine va_get (D := g.1) (ci := 11) (v := .ref pl) (C := RX11) (T := TX11) (N := 15) hx hb hts hc_X11_cylinder_X11 hown hK hP 0 rfl rfl 0 (by decide) (hts (.fieldLink RX11 12 "OilPush" "plant" "LOilPush$Plant;") (List.mem_of_getElem? (i := 1) rfl)) (fun _ h => h) rfl dX11_cylinder_46 ?_
    refine va_get (D := g.1) (ci := 4) (v := .int x6) (C := RX4) (T := TX4) (N := 5) hx hb hts hc_X11_cylinder_X4 hown hK hP 1 rfl rfl 3 (by decide) (hts (.fieldLink RX11 87 "OilPush$Plant" "count" "I") (List.mem_of_getElem? (i := 2) rfl)) (fun _ h => h) rfl dX11_cylinder_49 ?_
    refine lv_iconst (v := 1) hx hb dX11_cylinder_52 (by decide) ?_
    refine lv_isub hx hb dX11_cylinder_53 ?_
    refine lv_goto (tgt := 59) hx hb dX11_cylinder_54 (by decide) ?_
    exact retI C hS (x6, x7, x8) ⟨f10, (scyl_add (fun e9 => e9.elim c1 (fun e9 => e9.elim c2 c3)) hcs f11 c12)⟩ hP hD (Nat.le_of_ble_eq_true rfl) (Nat.le_of_ble_eq_true rfl) dX11_cylinder_59
  refine lv_bipush (v := -2) hx hb dX11_cylinder_29 (by decide) ?_
  exact retI C hS (cnt, fc, cs) ⟨hcs, (scyl_bad (Or.inr (Or.inr c3)))⟩ hP hD (Nat.le_of_ble_eq_true rfl) (Nat.le_of_ble_eq_true rfl) dX11_cylinder_31
