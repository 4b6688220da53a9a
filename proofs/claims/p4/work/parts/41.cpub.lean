theorem CS_same {l1 l2 cs : List Cy} {y y' : Cy} {cnt : Int32} {fc : Nat → Option Nat} (h : CS cs cnt fc) (e : cs = l1 ++ y :: l2) (hy : y'.1 = y.1) : CS (l1 ++ y' :: l2) cnt fc := by
  subst e
  obtain ⟨h1, h2, h3⟩ := h
  refine ⟨?_, ?_, ?_⟩
  · rw [h1]; simp
  · simp at h2 ⊢; exact h2
  · rw [h3, cysF_same l1 l2 y y' hy]
theorem hc_X11_pump_X11 : ∀ w ∈ wsX110, w ∈ wsX11_pump := fun w h => List.mem_cons_of_mem _ (List.mem_append_left _ (List.mem_append_right _ h))
theorem hc_X11_pump_X4 : ∀ w ∈ wsX40, w ∈ wsX11_pump := fun w h => List.mem_cons_of_mem _ (List.mem_append_right _ h)
def r_x_pump (gv : Int32) (lim : Int32) (what : Int32) (v : Int32) : Int32 := (if what = 0 then (if (r_c_within v 0 1000) = 0 then (-2) else gv) else (if what = 1 then (if (r_c_within v 1 1000) = 0 then (-2) else lim) else (-1)))
def o_x_pump_0 (gv : Int32) (what : Int32) (v : Int32) : Int32 := (if what = 0 then (if (r_c_within v 0 1000) = 0 then gv else v) else (if what = 1 then (if (r_c_within v 1 1000) = 0 then gv else gv) else gv))
def o_x_pump_1 (lim : Int32) (what : Int32) (v : Int32) : Int32 := (if what = 0 then (if (r_c_within v 0 1000) = 0 then lim else lim) else (if what = 1 then (if (r_c_within v 1 1000) = 0 then lim else v) else lim))
set_option maxRecDepth 100000 in
set_option maxHeartbeats 4000000 in
theorem x_pump (l : Launch) (g : Gt) (h0 : Nat) (sha : Nat) (tra : Nat) (lf : Int32) (std : Int32) (tkd : Int32) (tck : Int32) (sa : Nat) (ea : Nat) (oa : Nat) (tsa : Nat) (usa : Nat) (vea : Nat) (lka : Nat) (ra : Nat) (pl : Nat) (gv : Int32) (lim : Int32) (ca : Nat) (cnt : Int32) (la : Nat) (what : Int32) (v : Int32)  : Ctr l g yX11_pump wsX11_pump ({ frames := 1, cells := 0, slots := 0, locals := 22 } : Room) [.ref h0, .int what, .int v] [(h0, .inr (11, [.ref pl, .ref sa, .ref ea, .ref oa, .ref tsa, .ref usa, .ref vea, .ref lka, .ref ra, .ref sha, .ref tra, .int lf, .int std, .int tkd, .int tck])), (pl, .inr (4, [.int gv, .int lim, .ref ca, .int cnt, .ref la]))] (fun A => QI g A (fun r (_ : Unit) => r = (r_x_pump gv lim what v)) (fun _u : Unit => [(h0, .inr (11, [.ref pl, .ref sa, .ref ea, .ref oa, .ref tsa, .ref usa, .ref vea, .ref lka, .ref ra, .ref sha, .ref tra, .int lf, .int std, .int tkd, .int tck])), (pl, .inr (4, [.int (o_x_pump_0 gv what v), .int (o_x_pump_1 lim what v), .ref ca, .int cnt, .ref la]))])) := by
  refine Ctr.of (cc := cX11_pump) (maxL := 4) (ret := (some .int)) (by decide) rfl (Nat.le_of_ble_eq_true rfl) ?_
  intro p e s m below meth c A ls H C hP hD hA hS hl
  obtain ⟨hx, hb, hr, hts, hown, hlocks, hml, hin, hKN⟩ := id C
  have hK := hKN.1
  have hN := hKN.2
  have F : CallFix p m c cX11_pump 4 s _ wsX11_pump yX11_pump.cls := ⟨hx, hb, hml, hown, hts⟩
  have hl : lv_has ls 4 [(0, .ref h0), (1, .int what), (2, .int v)] := hl
  refine lv_iload_n hx hb dX11_pump_0 rfl (lv_at hl 1 rfl) ?_
  refine lv_if_eq (tgt := 11) hx hb dX11_pump_1 (by decide) (fun c1 => ?_) (fun c1 => ?_)
  · refine lv_iload_n hx hb dX11_pump_11 rfl (lv_at hl 2 rfl) ?_
    refine lv_iload_n hx hb dX11_pump_12 rfl (lv_at hl 1 rfl) ?_
    refine lv_if_ne (tgt := 20) hx hb dX11_pump_13 (by decide) (fun cc0 => absurd c1 cc0) (fun _ => ?_)
    refine lv_iconst (v := 0) hx hb dX11_pump_16 (by decide) ?_
    refine lv_goto (tgt := 21) hx hb dX11_pump_17 (by decide) ?_
    refine lv_sipush (v := 1000) hx hb dX11_pump_21 (by decide) ?_
    refine pureIS (As := [.int v, .int 0, .int 1000]) (rest := []) F (c_within l v 0 1000) 3 gX11_pump_X11_within rfl (by decide +kernel) rfl rfl ⟨(Nat.le_of_ble_eq_true rfl), (Nat.le_of_ble_eq_true rfl)⟩ (Nat.le_of_ble_eq_true rfl) (Nat.le_of_ble_eq_true rfl) rfl hl.1 rfl (Nat.le_of_ble_eq_true rfl) dX11_pump_24 ?_
    refine lv_if_ne (tgt := 33) hx hb dX11_pump_27 (by decide) (fun c2 => ?_) (fun c2 => ?_)
    · refine lv_iload_n hx hb dX11_pump_33 rfl (lv_at hl 1 rfl) ?_
      refine lv_if_ne (tgt := 47) hx hb dX11_pump_34 (by decide) (fun cc0 => absurd c1 cc0) (fun _ => ?_)
      refine lv_aload_n hx hb dX11_pump_37 rfl (lv_at hl 0 rfl) ?_
      refine va_get (D := g.1) (ci := 11) (v := .ref pl) (C := RX11) (T := TX11) (N := 15) hx hb hts hc_X11_pump_X11 hown hK hP 0 rfl rfl 0 (by decide) (hts (.fieldLink RX11 12 "OilPush" "plant" "LOilPush$Plant;") (List.mem_of_getElem? (i := 1) rfl)) (fun _ h => h) rfl dX11_pump_38 ?_
      refine va_get (D := g.1) (ci := 4) (v := .int gv) (C := RX4) (T := TX4) (N := 5) hx hb hts hc_X11_pump_X4 hown hK hP 1 rfl rfl 0 (by decide) (hts (.fieldLink RX11 77 "OilPush$Plant" "gives" "I") (List.mem_of_getElem? (i := 2) rfl)) (fun _ h => h) rfl dX11_pump_41 ?_
      refine lv_goto (tgt := 54) hx hb dX11_pump_44 (by decide) ?_
      refine lv_istore_n (lv' := [(3, .int gv), (0, .ref h0), (1, .int what), (2, .int v)]) hx hb dX11_pump_54 rfl hl (by decide) rfl (fun ls hl => ?_)
      refine lv_iload_n hx hb dX11_pump_55 rfl (lv_at hl 2 rfl) ?_
      refine lv_if_ne (tgt := 70) hx hb dX11_pump_56 (by decide) (fun cc0 => absurd c1 cc0) (fun _ => ?_)
      refine lv_aload_n hx hb dX11_pump_59 rfl (lv_at hl 1 rfl) ?_
      refine va_get (D := g.1) (ci := 11) (v := .ref pl) (C := RX11) (T := TX11) (N := 15) hx hb hts hc_X11_pump_X11 hown hK hP 0 rfl rfl 0 (by decide) (hts (.fieldLink RX11 12 "OilPush" "plant" "LOilPush$Plant;") (List.mem_of_getElem? (i := 1) rfl)) (fun _ h => h) rfl dX11_pump_60 ?_
      refine lv_iload_n hx hb dX11_pump_63 rfl (lv_at hl 3 rfl) ?_
      refine va_put (D := g.1) (ci := 4) (v := .int v) (ty := .int) (C := RX4) (T := TX4) (N := 5) hx hb hts hc_X11_pump_X4 tyX4 tyX4_ok nmX4 hown hK hP hD hS 1 rfl rfl 0 (by decide) (hts (.fieldLink RX11 77 "OilPush$Plant" "gives" "I") (List.mem_of_getElem? (i := 2) rfl)) (fun _ h => h) rfl (by decide +kernel) rfl rfl (Nat.le_of_ble_eq_true rfl) dX11_pump_64 (fun H locs hP hD hS => ?_)
      replace hP : va_P g.1 vwCl [(h0, .inr (11, [.ref pl, .ref sa, .ref ea, .ref oa, .ref tsa, .ref usa, .ref vea, .ref lka, .ref ra, .ref sha, .ref tra, .int lf, .int std, .int tkd, .int tck])), (pl, .inr (4, [.int v, .int lim, .ref ca, .int cnt, .ref la]))] H := hP
      replace hD : va_D A [(h0, .inr (11, [.ref pl, .ref sa, .ref ea, .ref oa, .ref tsa, .ref usa, .ref vea, .ref lka, .ref ra, .ref sha, .ref tra, .int lf, .int std, .int tkd, .int tck])), (pl, .inr (4, [.int v, .int lim, .ref ca, .int cnt, .ref la]))] := hD
      refine lv_goto (tgt := 78) hx hb dX11_pump_67 (by decide) ?_
      refine lv_iload_n hx hb dX11_pump_78 rfl (lv_at hl 0 rfl) ?_
      have e90 : (o_x_pump_0 gv what v) = v := by unfold o_x_pump_0; rw [if_pos c1, if_neg c2]
      have e91 : (o_x_pump_1 lim what v) = lim := by unfold o_x_pump_1; rw [if_pos c1, if_neg c2]
      have hP : va_P g.1 vwCl [(h0, .inr (11, [.ref pl, .ref sa, .ref ea, .ref oa, .ref tsa, .ref usa, .ref vea, .ref lka, .ref ra, .ref sha, .ref tra, .int lf, .int std, .int tkd, .int tck])), (pl, .inr (4, [.int (o_x_pump_0 gv what v), .int (o_x_pump_1 lim what v), .ref ca, .int cnt, .ref la]))] H := by rw [e90, e91]; exact hP
      have hD : va_D A [(h0, .inr (11, [.ref pl, .ref sa, .ref ea, .ref oa, .ref tsa, .ref usa, .ref vea, .ref lka, .ref ra, .ref sha, .ref tra, .int lf, .int std, .int tkd, .int tck])), (pl, .inr (4, [.int (o_x_pump_0 gv what v), .int (o_x_pump_1 lim what v), .ref ca, .int cnt, .ref la]))] := by rw [e90, e91]; exact hD
      exact retI C hS () (by unfold r_x_pump; rw [if_pos c1, if_neg c2]) (hP.pick [0, 1] rfl) (hD.sub [0, 1] rfl rfl) (Nat.le_of_ble_eq_true rfl) (Nat.le_of_ble_eq_true rfl) dX11_pump_79
    refine lv_bipush (v := -2) hx hb dX11_pump_30 (by decide) ?_
    have e90 : (o_x_pump_0 gv what v) = gv := by unfold o_x_pump_0; rw [if_pos c1, if_pos c2]
    have e91 : (o_x_pump_1 lim what v) = lim := by unfold o_x_pump_1; rw [if_pos c1, if_pos c2]
    have hP : va_P g.1 vwCl [(h0, .inr (11, [.ref pl, .ref sa, .ref ea, .ref oa, .ref tsa, .ref usa, .ref vea, .ref lka, .ref ra, .ref sha, .ref tra, .int lf, .int std, .int tkd, .int tck])), (pl, .inr (4, [.int (o_x_pump_0 gv what v), .int (o_x_pump_1 lim what v), .ref ca, .int cnt, .ref la]))] H := by rw [e90, e91]; exact hP
    have hD : va_D A [(h0, .inr (11, [.ref pl, .ref sa, .ref ea, .ref oa, .ref tsa, .ref usa, .ref vea, .ref lka, .ref ra, .ref sha, .ref tra, .int lf, .int std, .int tkd, .int tck])), (pl, .inr (4, [.int (o_x_pump_0 gv what v), .int (o_x_pump_1 lim what v), .ref ca, .int cnt, .ref la]))] := by rw [e90, e91]; exact hD
    exact retI C hS () (by unfold r_x_pump; rw [if_pos c1, if_pos c2]) (hP.pick [0, 1] rfl) (hD.sub [0, 1] rfl rfl) (Nat.le_of_ble_eq_true rfl) (Nat.le_of_ble_eq_true rfl) dX11_pump_32
  refine lv_iload_n hx hb dX11_pump_4 rfl (lv_at hl 1 rfl) ?_
  refine lv_iconst (v := 1) hx hb dX11_pump_5 (by decide) ?_
  refine lv_icmp_eq (tgt := 11) hx hb dX11_pump_6 (by decide) (fun c3 => ?_) (fun c3 => ?_)
  · refine lv_iload_n hx hb dX11_pump_11 rfl (lv_at hl 2 rfl) ?_
    refine lv_iload_n hx hb dX11_pump_12 rfl (lv_at hl 1 rfl) ?_
    refine lv_if_ne (tgt := 20) hx hb dX11_pump_13 (by decide) (fun _ => ?_) (fun cc0 => absurd cc0 c1)
    refine lv_iconst (v := 1) hx hb dX11_pump_20 (by decide) ?_
    refine lv_sipush (v := 1000) hx hb dX11_pump_21 (by decide) ?_
    refine pureIS (As := [.int v, .int 1, .int 1000]) (rest := []) F (c_within l v 1 1000) 3 gX11_pump_X11_within rfl (by decide +kernel) rfl rfl ⟨(Nat.le_of_ble_eq_true rfl), (Nat.le_of_ble_eq_true rfl)⟩ (Nat.le_of_ble_eq_true rfl) (Nat.le_of_ble_eq_true rfl) rfl hl.1 rfl (Nat.le_of_ble_eq_true rfl) dX11_pump_24 ?_
    refine lv_if_ne (tgt := 33) hx hb dX11_pump_27 (by decide) (fun c4 => ?_) (fun c4 => ?_)
    · refine lv_iload_n hx hb dX11_pump_33 rfl (lv_at hl 1 rfl) ?_
      refine lv_if_ne (tgt := 47) hx hb dX11_pump_34 (by decide) (fun _ => ?_) (fun cc0 => absurd cc0 c1)
      refine lv_aload_n hx hb dX11_pump_47 rfl (lv_at hl 0 rfl) ?_
      refine va_get (D := g.1) (ci := 11) (v := .ref pl) (C := RX11) (T := TX11) (N := 15) hx hb hts hc_X11_pump_X11 hown hK hP 0 rfl rfl 0 (by decide) (hts (.fieldLink RX11 12 "OilPush" "plant" "LOilPush$Plant;") (List.mem_of_getElem? (i := 1) rfl)) (fun _ h => h) rfl dX11_pump_48 ?_
      refine va_get (D := g.1) (ci := 4) (v := .int lim) (C := RX4) (T := TX4) (N := 5) hx hb hts hc_X11_pump_X4 hown hK hP 1 rfl rfl 1 (by decide) (hts (.fieldLink RX11 81 "OilPush$Plant" "limit" "I") (List.mem_of_getElem? (i := 3) rfl)) (fun _ h => h) rfl dX11_pump_51 ?_
      refine lv_istore_n (lv' := [(3, .int lim), (0, .ref h0), (1, .int what), (2, .int v)]) hx hb dX11_pump_54 rfl hl (by decide) rfl (fun ls hl => ?_)
      refine lv_iload_n hx hb dX11_pump_55 rfl (lv_at hl 2 rfl) ?_
      refine lv_if_ne (tgt := 70) hx hb dX11_pump_56 (by decide) (fun _ => ?_) (fun cc0 => absurd cc0 c1)
      refine lv_aload_n hx hb dX11_pump_70 rfl (lv_at hl 1 rfl) ?_
      refine va_get (D := g.1) (ci := 11) (v := .ref pl) (C := RX11) (T := TX11) (N := 15) hx hb hts hc_X11_pump_X11 hown hK hP 0 rfl rfl 0 (by decide) (hts (.fieldLink RX11 12 "OilPush" "plant" "LOilPush$Plant;") (List.mem_of_getElem? (i := 1) rfl)) (fun _ h => h) rfl dX11_pump_71 ?_
      refine lv_iload_n hx hb dX11_pump_74 rfl (lv_at hl 3 rfl) ?_
      refine va_put (D := g.1) (ci := 4) (v := .int v) (ty := .int) (C := RX4) (T := TX4) (N := 5) hx hb hts hc_X11_pump_X4 tyX4 tyX4_ok nmX4 hown hK hP hD hS 1 rfl rfl 1 (by decide) (hts (.fieldLink RX11 81 "OilPush$Plant" "limit" "I") (List.mem_of_getElem? (i := 3) rfl)) (fun _ h => h) rfl (by decide +kernel) rfl rfl (Nat.le_of_ble_eq_true rfl) dX11_pump_75 (fun H locs hP hD hS => ?_)
      replace hP : va_P g.1 vwCl [(h0, .inr (11, [.ref pl, .ref sa, .ref ea, .ref oa, .ref tsa, .ref usa, .ref vea, .ref lka, .ref ra, .ref sha, .ref tra, .int lf, .int std, .int tkd, .int tck])), (pl, .inr (4, [.int gv, .int v, .ref ca, .int cnt, .ref la]))] H := hP
      replace hD : va_D A [(h0, .inr (11, [.ref pl, .ref sa, .ref ea, .ref oa, .ref tsa, .ref usa, .ref vea, .ref lka, .ref ra, .ref sha, .ref tra, .int lf, .int std, .int tkd, .int tck])), (pl, .inr (4, [.int gv, .int v, .ref ca, .int cnt, .ref la]))] := hD
      refine lv_iload_n hx hb dX11_pump_78 rfl (lv_at hl 0 rfl) ?_
      have e90 : (o_x_pump_0 gv what v) = gv := by unfold o_x_pump_0; rw [if_neg c1, if_pos c3, if_neg c4]
      have e91 : (o_x_pump_1 lim what v) = v := by unfold o_x_pump_1; rw [if_neg c1, if_pos c3, if_neg c4]
      have hP : va_P g.1 vwCl [(h0, .inr (11, [.ref pl, .ref sa, .ref ea, .ref oa, .ref tsa, .ref usa, .ref vea, .ref lka, .ref ra, .ref sha, .ref tra, .int lf, .int std, .int tkd, .int tck])), (pl, .inr (4, [.int (o_x_pump_0 gv what v), .int (o_x_pump_1 lim what v), .ref ca, .int cnt, .ref la]))] H := by rw [e90, e91]; exact hP
      have hD : va_D A [(h0, .inr (11, [.ref pl, .ref sa, .ref ea, .ref oa, .ref tsa, .ref usa, .ref vea, .ref lka, .ref ra, .ref sha, .ref tra, .int lf, .int std, .int tkd, .int tck])), (pl, .inr (4, [.int (o_x_pump_0 gv what v), .int (o_x_pump_1 lim what v), .ref ca, .int cnt, .ref la]))] := by rw [e90, e91]; exact hD
      exact retI C hS () (by unfold r_x_pump; rw [if_neg c1, if_pos c3, if_neg c4]) (hP.pick [0, 1] rfl) (hD.sub [0, 1] rfl rfl) (Nat.le_of_ble_eq_true rfl) (Nat.le_of_ble_eq_true rfl) dX11_pump_79
    refine lv_bipush (v := -2) hx hb dX11_pump_30 (by decide) ?_
    have e90 : (o_x_pump_0 gv what v) = gv := by unfold o_x_pump_0; rw [if_neg c1, if_pos c3, if_pos c4]
    have e91 : (o_x_pump_1 lim what v) = lim := by unfold o_x_pump_1; rw [if_neg c1, if_pos c3, if_pos c4]
    have hP : va_P g.1 vwCl [(h0, .inr (11, [.ref pl, .ref sa, .ref ea, .ref oa, .ref tsa, .ref usa, .ref vea, .ref lka, .ref ra, .ref sha, .ref tra, .int lf, .int std, .int tkd, .int tck])), (pl, .inr (4, [.int (o_x_pump_0 gv what v), .int (o_x_pump_1 lim what v), .ref ca, .int cnt, .ref la]))] H := by rw [e90, e91]; exact hP
    have hD : va_D A [(h0, .inr (11, [.ref pl, .ref sa, .ref ea, .ref oa, .ref tsa, .ref usa, .ref vea, .ref lka, .ref ra, .ref sha, .ref tra, .int lf, .int std, .int tkd, .int tck])), (pl, .inr (4, [.int (o_x_pump_0 gv what v), .int (o_x_pump_1 lim what v), .ref ca, .int cnt, .ref la]))] := by rw [e90, e91]; exact hD
    exact retI C hS () (by unfold r_x_pump; rw [if_neg c1, if_pos c3, if_pos c4]) (hP.pick [0, 1] rfl) (hD.sub [0, 1] rfl rfl) (Nat.le_of_ble_eq_true rfl) (Nat.le_of_ble_eq_true rfl) dX11_pump_32
  refine lv_iconst (v := -1) hx hb dX11_pump_9 (by decide) ?_
  have e90 : (o_x_pump_0 gv what v) = gv := by unfold o_x_pump_0; rw [if_neg c1, if_neg c3]
  have e91 : (o_x_pump_1 lim what v) = lim := by unfold o_x_pump_1; rw [if_neg c1, if_neg c3]
  have hP : va_P g.1 vwCl [(h0, .inr (11, [.ref pl, .ref sa, .ref ea, .ref oa, .ref tsa, .ref usa, .ref vea, .ref lka, .ref ra, .ref sha, .ref tra, .int lf, .int std, .int tkd, .int tck])), (pl, .inr (4, [.int (o_x_pump_0 gv what v), .int (o_x_pump_1 lim what v), .ref ca, .int cnt, .ref la]))] H := by rw [e90, e91]; exact hP
  have hD : va_D A [(h0, .inr (11, [.ref pl, .ref sa, .ref ea, .ref oa, .ref tsa, .ref usa, .ref vea, .ref lka, .ref ra, .ref sha, .ref tra, .int lf, .int std, .int tkd, .int tck])), (pl, .inr (4, [.int (o_x_pump_0 gv what v), .int (o_x_pump_1 lim what v), .ref ca, .int cnt, .ref la]))] := by rw [e90, e91]; exact hD
  exact retI C hS () (by unfold r_x_pump; rw [if_neg c1, if_neg c3]) (hP.pick [0, 1] rfl) (hD.sub [0, 1] rfl rfl) (Nat.le_of_ble_eq_true rfl) (Nat.le_of_ble_eq_true rfl) dX11_pump_10
theorem hc_X11_faulted_X11 : ∀ w ∈ wsX110, w ∈ wsX11_faulted := fun w h => List.mem_cons_of_mem _ (List.mem_append_right _ h)
set_option maxRecDepth 100000 in
set_option maxHeartbeats 4000000 in
theorem x_faulted (l : Launch) (g : Gt) (h0 : Nat) (sha : Nat) (tra : Nat) (lf : Int32) (std : Int32) (tkd : Int32) (tck : Int32) (sa : Nat) (ea : Nat) (oa : Nat) (tsa : Nat) (usa : Nat) (vea : Nat) (lka : Nat) (ra : Nat) (pl : Nat) (which : Int32)  : Ctr l g yX11_faulted wsX11_faulted ({ frames := 0, cells := 0, slots := 0, locals := 0 } : Room) [.ref h0, .int which] [(h0, .inr (11, [.ref pl, .ref sa, .ref ea, .ref oa, .ref tsa, .ref usa, .ref vea, .ref lka, .ref ra, .ref sha, .ref tra, .int lf, .int std, .int tkd, .int tck]))] (fun A => QI g A (fun r (_ : Unit) => r = ((-10) - which)) (fun _u : Unit => [(h0, .inr (11, [.ref pl, .ref sa, .ref ea, .ref oa, .ref tsa, .ref usa, .ref vea, .ref lka, .ref ra, .ref sha, .ref tra, .int which, .int std, .int tkd, .int tck]))])) := by
  refine Ctr.of (cc := cX11_faulted) (maxL := 2) (ret := (some .int)) (by decide) rfl (Nat.le_of_ble_eq_true rfl) ?_
  intro p e s m below meth c A ls H C hP hD hA hS hl
  obtain ⟨hx, hb, hr, hts, hown, hlocks, hml, hin, hKN⟩ := id C
  have hK := hKN.1
  have hN := hKN.2
  have F : CallFix p m c cX11_faulted 2 s _ wsX11_faulted yX11_faulted.cls := ⟨hx, hb, hml, hown, hts⟩
  have hl : lv_has ls 2 [(0, .ref h0), (1, .int which)] := hl
  refine lv_aload_n hx hb dX11_faulted_0 rfl (lv_at hl 0 rfl) ?_
  refine lv_iload_n hx hb dX11_faulted_1 rfl (lv_at hl 1 rfl) ?_
  refine va_put (D := g.1) (ci := 11) (v := .int which) (ty := .int) (C := RX11) (T := TX11) (N := 15) hx hb hts hc_X11_faulted_X11 tyX11 tyX11_ok nmX11 hown hK hP hD hS 0 rfl rfl 11 (by decide) (hts (.fieldLink RX11 110 "OilPush" "latestFault" "I") (List.mem_of_getElem? (i := 1) rfl)) (fun _ h => h) rfl (by decide +kernel) rfl rfl (Nat.le_of_ble_eq_true rfl) dX11_faulted_2 (fun H locs hP hD hS => ?_)
  replace hP : va_P g.1 vwCl [(h0, .inr (11, [.ref pl, .ref sa, .ref ea, .ref oa, .ref tsa, .ref usa, .ref vea, .ref lka, .ref ra, .ref sha, .ref tra, .int which, .int std, .int tkd, .int tck]))] H := hP
  replace hD : va_D A [(h0, .inr (11, [.ref pl, .ref sa, .ref ea, .ref oa, .ref tsa, .ref usa, .ref vea, .ref lka, .ref ra, .ref sha, .ref tra, .int which, .int std, .int tkd, .int tck]))] := hD
  refine lv_bipush (v := -10) hx hb dX11_faulted_5 (by decide) ?_
  refine lv_iload_n hx hb dX11_faulted_7 rfl (lv_at hl 1 rfl) ?_
  refine lv_isub hx hb dX11_faulted_8 ?_
  exact retI C hS () rfl (hP.pick [0] rfl) (hD.sub [0] rfl rfl) (Nat.le_of_ble_eq_true rfl) (Nat.le_of_ble_eq_true rfl) dX11_faulted_9
set_option maxRecDepth 100000 in
set_option maxHeartbeats 4000000 in
theorem x_swap (l : Launch) (g : Gt) (row_ : Nat) (frow : Nat → Int32) (ix : Int32) (v : Int32)  : Ctr l g yX11_swap wsX11_swap ({ frames := 1, cells := 0, slots := 0, locals := 22 } : Room) [.ref row_, .int ix, .int v] [(row_, .inl (g.2 0, 6, .inl frow))] (fun A => QI g A (fun r (_ : Unit) => r = (r_c_get 6 frow ix)) (fun _u : Unit => [(row_, .inl (g.2 0, 6, .inl (r_c_set 6 frow ix v)))])) := by
  refine Ctr.of (cc := cX11_swap) (maxL := 4) (ret := (some .int)) (by decide) rfl (Nat.le_of_ble_eq_true rfl) ?_
  intro p e s m below meth c A ls H C hP hD hA hS hl
  obtain ⟨hx, hb, hr, hts, hown, hlocks, hml, hin, hKN⟩ := id C
  have hK := hKN.1
  have hN := hKN.2
  have F : CallFix p m c cX11_swap 4 s _ wsX11_swap yX11_swap.cls := ⟨hx, hb, hml, hown, hts⟩
  have hl : lv_has ls 4 [(0, .ref row_), (1, .int ix), (2, .int v)] := hl
  refine lv_aload_n hx hb dX11_swap_0 rfl (lv_at hl 0 rfl) ?_
  refine lv_iload_n hx hb dX11_swap_1 rfl (lv_at hl 1 rfl) ?_
  refine kI (rnS (As := [.ref row_, .int ix]) (rest := []) C (c_get l g row_ 6 frow ix (by decide)) 2 gX11_swap_X11_get rfl (by decide +kernel) ⟨(Nat.le_of_ble_eq_true rfl), (Nat.le_of_ble_eq_true rfl)⟩ rfl hl.1 rfl (Nat.le_of_ble_eq_true rfl) dX11_swap_2 ⟨(Nat.le_of_ble_eq_true rfl), (Nat.le_of_ble_eq_true rfl)⟩) (spM0 [true] hP hD rfl) hA hS (fun r1 u2 H locs hw hP hD hS => ?_)
  have hre := hw
  replace hP : va_P g.1 vwCl [(row_, .inl (g.2 0, 6, .inl frow))] H := hP
  replace hD : va_D A [(row_, .inl (g.2 0, 6, .inl frow))] := hD
  refine nx_i (v := (r_c_get 6 frow ix)) hre ?_
  refine lv_istore_n (lv' := [(3, .int (r_c_get 6 frow ix)), (0, .ref row_), (1, .int ix), (2, .int v)]) hx hb dX11_swap_5 rfl hl (by decide) rfl (fun ls hl => ?_)
  refine lv_aload_n hx hb dX11_swap_6 rfl (lv_at hl 1 rfl) ?_
  refine lv_iload_n hx hb dX11_swap_7 rfl (lv_at hl 2 rfl) ?_
  refine lv_iload_n hx hb dX11_swap_8 rfl (lv_at hl 3 rfl) ?_
  refine kV (rnS (As := [.ref row_, .int ix, .int v]) (rest := []) C (c_set l g row_ 6 frow ix v (by decide)) 3 gX11_swap_X11_set rfl (by decide +kernel) ⟨(Nat.le_of_ble_eq_true rfl), (Nat.le_of_ble_eq_true rfl)⟩ rfl hl.1 rfl (Nat.le_of_ble_eq_true rfl) dX11_swap_9 ⟨(Nat.le_of_ble_eq_true rfl), (Nat.le_of_ble_eq_true rfl)⟩) (spM0 [true] hP hD rfl) hA hS (fun u4 H locs hw hP hD hS => ?_)
  replace hP : va_P g.1 vwCl [(row_, .inl (g.2 0, 6, .inl (r_c_set 6 frow ix v)))] H := hP
  replace hD : va_D A [(row_, .inl (g.2 0, 6, .inl (r_c_set 6 frow ix v)))] := hD
  refine lv_iload_n hx hb dX11_swap_12 rfl (lv_at hl 0 rfl) ?_
  exact retI C hS () rfl (hP.pick [0] rfl) (hD.sub [0] rfl rfl) (Nat.le_of_ble_eq_true rfl) (Nat.le_of_ble_eq_true rfl) dX11_swap_13
theorem hc_X11_gauge_X1 : ∀ w ∈ wsX10, w ∈ wsX11_gauge := fun w h => List.mem_cons_of_mem _ (List.mem_append_right _ h)
theorem hc_X11_gauge_X11 : ∀ w ∈ wsX110, w ∈ wsX11_gauge := fun w h => List.mem_cons_of_mem _ (List.mem_append_left _ (List.mem_append_right _ h))
def r_x_gauge (tkd : Int32) (tks : Int32) (prs : Int32) (ovr : Int32) (stk : Int32) (what : Int32) : Int32 := (if (r_c_within what 0 3) = 0 then (-2) else (if tkd = 0 then (-3) else (if what = 0 then prs else (if what = 1 then ovr else (if what = 2 then stk else tks)))))
set_option maxRecDepth 100000 in
set_option maxHeartbeats 4000000 in
theorem x_gauge (l : Launch) (g : Gt) (h0 : Nat) (sha : Nat) (tra : Nat) (lf : Int32) (std : Int32) (tkd : Int32) (tck : Int32) (sa : Nat) (ea : Nat) (oa : Nat) (tsa : Nat) (usa : Nat) (vea : Nat) (lka : Nat) (ra : Nat) (pl : Nat) (et : Nat) (el : Nat) (en : Nat) (em : Nat) (ek : Nat) (mov : Int32) (tks : Int32) (prs : Int32) (ovr : Int32) (stk : Int32) (ht : Int64) (wk : Int64) (gn : Int64) (what : Int32)  : Ctr l g yX11_gauge wsX11_gauge ({ frames := 1, cells := 0, slots := 0, locals := 22 } : Room) [.ref h0, .int what] [(h0, .inr (11, [.ref pl, .ref sa, .ref ea, .ref oa, .ref tsa, .ref usa, .ref vea, .ref lka, .ref ra, .ref sha, .ref tra, .int lf, .int std, .int tkd, .int tck])), (ea, .inr (1, [.ref et, .ref el, .int mov, .ref en, .ref em, .ref ek, .int tks, .int prs, .int ovr, .int stk, .long ht, .long wk, .long gn]))] (fun A => QI g A (fun r (_ : Unit) => r = (r_x_gauge tkd tks prs ovr stk what)) (fun _u : Unit => [(h0, .inr (11, [.ref pl, .ref sa, .ref ea, .ref oa, .ref tsa, .ref usa, .ref vea, .ref lka, .ref ra, .ref sha, .ref tra, .int lf, .int std, .int tkd, .int tck])), (ea, .inr (1, [.ref et, .ref el, .int mov, .ref en, .ref em, .ref ek, .int tks, .int prs, .int ovr, .int stk, .long ht, .long wk, .long gn]))])) := by
  refine Ctr.of (cc := cX11_gauge) (maxL := 2) (ret := (some .int)) (by decide) rfl (Nat.le_of_ble_eq_true rfl) ?_
  intro p e s m below meth c A ls H C hP hD hA hS hl
  obtain ⟨hx, hb, hr, hts, hown, hlocks, hml, hin, hKN⟩ := id C
  have hK := hKN.1
  have hN := hKN.2
  have F : CallFix p m c cX11_gauge 2 s _ wsX11_gauge yX11_gauge.cls := ⟨hx, hb, hml, hown, hts⟩
  have hl : lv_has ls 2 [(0, .ref h0), (1, .int what)] := hl
  refine lv_iload_n hx hb dX11_gauge_0 rfl (lv_at hl 1 rfl) ?_
  refine lv_iconst (v := 0) hx hb dX11_gauge_1 (by decide) ?_
  refine lv_iconst (v := 3) hx hb dX11_gauge_2 (by decide) ?_
  refine pureIS (As := [.int what, .int 0, .int 3]) (rest := []) F (c_within l what 0 3) 3 gX11_gauge_X11_within rfl (by decide +kernel) rfl rfl ⟨(Nat.le_of_ble_eq_true rfl), (Nat.le_of_ble_eq_true rfl)⟩ (Nat.le_of_ble_eq_true rfl) (Nat.le_of_ble_eq_true rfl) rfl hl.1 rfl (Nat.le_of_ble_eq_true rfl) dX11_gauge_3 ?_
  refine lv_if_ne (tgt := 12) hx hb dX11_gauge_6 (by decide) (fun c1 => ?_) (fun c1 => ?_)
  · refine lv_aload_n hx hb dX11_gauge_12 rfl (lv_at hl 0 rfl) ?_
    refine va_get (D := g.1) (ci := 11) (v := .int tkd) (C := RX11) (T := TX11) (N := 15) hx hb hts hc_X11_gauge_X11 hown hK hP 0 rfl rfl 13 (by decide) (hts (.fieldLink RX11 208 "OilPush" "ticked" "Z") (List.mem_of_getElem? (i := 1) rfl)) (fun _ h => h) rfl dX11_gauge_13 ?_
    refine lv_if_ne (tgt := 22) hx hb dX11_gauge_16 (by decide) (fun c2 => ?_) (fun c2 => ?_)
    · refine lv_iload_n hx hb dX11_gauge_22 rfl (lv_at hl 1 rfl) ?_
      by_cases w3 : what = 0
      · refine lv_tableIn (tgt := 48) (off := 25) hx hb dX11_gauge_23 (by rw [w3]; decide) (by rw [w3]; decide) (by rw [w3]; rfl) (by decide) ?_
        refine lv_aload_n hx hb dX11_gauge_48 rfl (lv_at hl 0 rfl) ?_
        refine va_get (D := g.1) (ci := 11) (v := .ref ea) (C := RX11) (T := TX11) (N := 15) hx hb hts hc_X11_gauge_X11 hown hK hP 0 rfl rfl 2 (by decide) (hts (.fieldLink RX11 28 "OilPush" "engine" "LOilPush$Engine;") (List.mem_of_getElem? (i := 2) rfl)) (fun _ h => h) rfl dX11_gauge_49 ?_
        refine va_get (D := g.1) (ci := 1) (v := .int prs) (C := RX1) (T := TX1) (N := 13) hx hb hts hc_X11_gauge_X1 hown hK hP 1 rfl rfl 7 (by decide) (hts (.fieldLink RX11 212 "OilPush$Engine" "pressure" "I") (List.mem_of_getElem? (i := 3) rfl)) (fun _ h => h) rfl dX11_gauge_52 ?_
        exact retI C hS () (by unfold r_x_gauge; rw [if_neg c1, if_neg c2, if_pos w3]) (hP.pick [0, 1] rfl) (hD.sub [0, 1] rfl rfl) (Nat.le_of_ble_eq_true rfl) (Nat.le_of_ble_eq_true rfl) dX11_gauge_55
      by_cases w4 : what = 1
      · refine lv_tableIn (tgt := 56) (off := 33) hx hb dX11_gauge_23 (by rw [w4]; decide) (by rw [w4]; decide) (by rw [w4]; rfl) (by decide) ?_
        refine lv_aload_n hx hb dX11_gauge_56 rfl (lv_at hl 0 rfl) ?_
        refine va_get (D := g.1) (ci := 11) (v := .ref ea) (C := RX11) (T := TX11) (N := 15) hx hb hts hc_X11_gauge_X11 hown hK hP 0 rfl rfl 2 (by decide) (hts (.fieldLink RX11 28 "OilPush" "engine" "LOilPush$Engine;") (List.mem_of_getElem? (i := 2) rfl)) (fun _ h => h) rfl dX11_gauge_57 ?_
        refine va_get (D := g.1) (ci := 1) (v := .int ovr) (C := RX1) (T := TX1) (N := 13) hx hb hts hc_X11_gauge_X1 hown hK hP 1 rfl rfl 8 (by decide) (hts (.fieldLink RX11 215 "OilPush$Engine" "over" "I") (List.mem_of_getElem? (i := 4) rfl)) (fun _ h => h) rfl dX11_gauge_60 ?_
        exact retI C hS () (by unfold r_x_gauge; rw [if_neg c1, if_neg c2, if_neg w3, if_pos w4]) (hP.pick [0, 1] rfl) (hD.sub [0, 1] rfl rfl) (Nat.le_of_ble_eq_true rfl) (Nat.le_of_ble_eq_true rfl) dX11_gauge_63
      by_cases w5 : what = 2
      · refine lv_tableIn (tgt := 64) (off := 41) hx hb dX11_gauge_23 (by rw [w5]; decide) (by rw [w5]; decide) (by rw [w5]; rfl) (by decide) ?_
        refine lv_aload_n hx hb dX11_gauge_64 rfl (lv_at hl 0 rfl) ?_
        refine va_get (D := g.1) (ci := 11) (v := .ref ea) (C := RX11) (T := TX11) (N := 15) hx hb hts hc_X11_gauge_X11 hown hK hP 0 rfl rfl 2 (by decide) (hts (.fieldLink RX11 28 "OilPush" "engine" "LOilPush$Engine;") (List.mem_of_getElem? (i := 2) rfl)) (fun _ h => h) rfl dX11_gauge_65 ?_
        refine va_get (D := g.1) (ci := 1) (v := .int stk) (C := RX1) (T := TX1) (N := 13) hx hb hts hc_X11_gauge_X1 hown hK hP 1 rfl rfl 9 (by decide) (hts (.fieldLink RX11 218 "OilPush$Engine" "storeTook" "I") (List.mem_of_getElem? (i := 5) rfl)) (fun _ h => h) rfl dX11_gauge_68 ?_
        exact retI C hS () (by unfold r_x_gauge; rw [if_neg c1, if_neg c2, if_neg w3, if_neg w4, if_pos w5]) (hP.pick [0, 1] rfl) (hD.sub [0, 1] rfl rfl) (Nat.le_of_ble_eq_true rfl) (Nat.le_of_ble_eq_true rfl) dX11_gauge_71
      refine lv_tableOut (tgt := 72) hx hb dX11_gauge_23 (sw2 w3 w4 w5) (by decide) ?_
      refine lv_aload_n hx hb dX11_gauge_72 rfl (lv_at hl 0 rfl) ?_
      refine va_get (D := g.1) (ci := 11) (v := .ref ea) (C := RX11) (T := TX11) (N := 15) hx hb hts hc_X11_gauge_X11 hown hK hP 0 rfl rfl 2 (by decide) (hts (.fieldLink RX11 28 "OilPush" "engine" "LOilPush$Engine;") (List.mem_of_getElem? (i := 2) rfl)) (fun _ h => h) rfl dX11_gauge_73 ?_
      refine va_get (D := g.1) (ci := 1) (v := .int tks) (C := RX1) (T := TX1) (N := 13) hx hb hts hc_X11_gauge_X1 hown hK hP 1 rfl rfl 6 (by decide) (hts (.fieldLink RX11 221 "OilPush$Engine" "takers" "I") (List.mem_of_getElem? (i := 6) rfl)) (fun _ h => h) rfl dX11_gauge_76 ?_
      exact retI C hS () (by unfold r_x_gauge; rw [if_neg c1, if_neg c2, if_neg w3, if_neg w4, if_neg w5]) (hP.pick [0, 1] rfl) (hD.sub [0, 1] rfl rfl) (Nat.le_of_ble_eq_true rfl) (Nat.le_of_ble_eq_true rfl) dX11_gauge_79
    refine lv_bipush (v := -3) hx hb dX11_gauge_19 (by decide) ?_
    exact retI C hS () (by unfold r_x_gauge; rw [if_neg c1, if_pos c2]) (hP.pick [0, 1] rfl) (hD.sub [0, 1] rfl rfl) (Nat.le_of_ble_eq_true rfl) (Nat.le_of_ble_eq_true rfl) dX11_gauge_21
  refine lv_bipush (v := -2) hx hb dX11_gauge_9 (by decide) ?_
  exact retI C hS () (by unfold r_x_gauge; rw [if_pos c1]) (hP.pick [0, 1] rfl) (hD.sub [0, 1] rfl rfl) (Nat.le_of_ble_eq_true rfl) (Nat.le_of_ble_eq_true rfl) dX11_gauge_11
theorem hc_X11_waits_X11 : ∀ w ∈ wsX110, w ∈ wsX11_waits := fun w h => List.mem_cons_of_mem _ (List.mem_append_left _ (List.mem_append_right _ h))
theorem hc_X11_waits_X7 : ∀ w ∈ wsX70, w ∈ wsX11_waits := fun w h => List.mem_cons_of_mem _ (List.mem_append_right _ h)
set_option maxRecDepth 100000 in
set_option maxHeartbeats 4000000 in
theorem x_waits (l : Launch) (g : Gt) (h0 : Nat) (sha : Nat) (tra : Nat) (lf : Int32) (std : Int32) (tkd : Int32) (tck : Int32) (sa : Nat) (ea : Nat) (oa : Nat) (tsa : Nat) (usa : Nat) (vea : Nat) (lka : Nat) (ra : Nat) (pl : Nat) (so : Nat) (sv : Nat) (sb : Nat) (ss : Nat) (wt : Int32)  : Ctr l g yX11_waits wsX11_waits ({ frames := 0, cells := 0, slots := 0, locals := 0 } : Room) [.ref h0] [(h0, .inr (11, [.ref pl, .ref sa, .ref ea, .ref oa, .ref tsa, .ref usa, .ref vea, .ref lka, .ref ra, .ref sha, .ref tra, .int lf, .int std, .int tkd, .int tck])), (sa, .inr (7, [.ref so, .ref sv, .ref sb, .ref ss, .int wt]))] (fun A => QI g A (fun r (_ : Unit) => r = wt) (fun _u : Unit => [(h0, .inr (11, [.ref pl, .ref sa, .ref ea, .ref oa, .ref tsa, .ref usa, .ref vea, .ref lka, .ref ra, .ref sha, .ref tra, .int lf, .int std, .int tkd, .int tck])), (sa, .inr (7, [.ref so, .ref sv, .ref sb, .ref ss, .int wt]))])) := by
  refine Ctr.of (cc := cX11_waits) (maxL := 1) (ret := (some .int)) (by decide) rfl (Nat.le_of_ble_eq_true rfl) ?_
  intro p e s m below meth c A ls H C hP hD hA hS hl
  obtain ⟨hx, hb, hr, hts, hown, hlocks, hml, hin, hKN⟩ := id C
  have hK := hKN.1
  have hN := hKN.2
  have F : CallFix p m c cX11_waits 1 s _ wsX11_waits yX11_waits.cls := ⟨hx, hb, hml, hown, hts⟩
  have hl : lv_has ls 1 [(0, .ref h0)] := hl
  refine lv_aload_n hx hb dX11_waits_0 rfl (lv_at hl 0 rfl) ?_
  refine va_get (D := g.1) (ci := 11) (v := .ref sa) (C := RX11) (T := TX11) (N := 15) hx hb hts hc_X11_waits_X11 hown hK hP 0 rfl rfl 1 (by decide) (hts (.fieldLink RX11 21 "OilPush" "now" "LOilPush$State;") (List.mem_of_getElem? (i := 1) rfl)) (fun _ h => h) rfl dX11_waits_1 ?_
  refine va_get (D := g.1) (ci := 7) (v := .int wt) (C := RX7) (T := TX7) (N := 5) hx hb hts hc_X11_waits_X7 hown hK hP 1 rfl rfl 4 (by decide) (hts (.fieldLink RX11 245 "OilPush$State" "waits" "I") (List.mem_of_getElem? (i := 2) rfl)) (fun _ h => h) rfl dX11_waits_4 ?_
  exact retI C hS () rfl (hP.pick [0, 1] rfl) (hD.sub [0, 1] rfl rfl) (Nat.le_of_ble_eq_true rfl) (Nat.le_of_ble_eq_true rfl) dX11_waits_7
theorem hc_X11_forget_X11 : ∀ w ∈ wsX110, w ∈ wsX11_forget := fun w h => List.mem_cons_of_mem _ (List.mem_append_left _ (List.mem_append_right _ h))
theorem hc_X11_forget_X5 : ∀ w ∈ wsX50, w ∈ wsX11_forget := fun w h => List.mem_cons_of_mem _ (List.mem_append_right _ h)
set_option maxRecDepth 100000 in
set_option maxHeartbeats 4000000 in
theorem x_forget (l : Launch) (g : Gt) (h0 : Nat) (sha : Nat) (tra : Nat) (lf : Int32) (std : Int32) (tkd : Int32) (tck : Int32) (sa : Nat) (ea : Nat) (oa : Nat) (tsa : Nat) (usa : Nat) (vea : Nat) (lka : Nat) (ra : Nat) (pl : Nat) (rt : Nat) (ro : Nat) (rx : Nat) (rc : Int32)  : Ctr l g yX11_forget wsX11_forget ({ frames := 0, cells := 0, slots := 0, locals := 0 } : Room) [.ref h0] [(h0, .inr (11, [.ref pl, .ref sa, .ref ea, .ref oa, .ref tsa, .ref usa, .ref vea, .ref lka, .ref ra, .ref sha, .ref tra, .int lf, .int std, .int tkd, .int tck])), (ra, .inr (5, [.ref rt, .ref ro, .ref rx, .int rc]))] (fun A => QI g A (fun r (_ : Unit) => r = rc) (fun _u : Unit => [(h0, .inr (11, [.ref pl, .ref sa, .ref ea, .ref oa, .ref tsa, .ref usa, .ref vea, .ref lka, .ref ra, .ref sha, .ref tra, .int lf, .int std, .int tkd, .int tck])), (ra, .inr (5, [.ref rt, .ref ro, .ref rx, .int 0]))])) := by
  refine Ctr.of (cc := cX11_forget) (maxL := 2) (ret := (some .int)) (by decide) rfl (Nat.le_of_ble_eq_true rfl) ?_
  intro p e s m below meth c A ls H C hP hD hA hS hl
  obtain ⟨hx, hb, hr, hts, hown, hlocks, hml, hin, hKN⟩ := id C
  have hK := hKN.1
  have hN := hKN.2
  have F : CallFix p m c cX11_forget 2 s _ wsX11_forget yX11_forget.cls := ⟨hx, hb, hml, hown, hts⟩
  have hl : lv_has ls 2 [(0, .ref h0)] := hl
  refine lv_aload_n hx hb dX11_forget_0 rfl (lv_at hl 0 rfl) ?_
  refine va_get (D := g.1) (ci := 11) (v := .ref ra) (C := RX11) (T := TX11) (N := 15) hx hb hts hc_X11_forget_X11 hown hK hP 0 rfl rfl 8 (by decide) (hts (.fieldLink RX11 55 "OilPush" "readings" "LOilPush$Readings;") (List.mem_of_getElem? (i := 1) rfl)) (fun _ h => h) rfl dX11_forget_1 ?_
  refine va_get (D := g.1) (ci := 5) (v := .int rc) (C := RX5) (T := TX5) (N := 4) hx hb hts hc_X11_forget_X5 hown hK hP 1 rfl rfl 3 (by decide) (hts (.fieldLink RX11 256 "OilPush$Readings" "count" "I") (List.mem_of_getElem? (i := 2) rfl)) (fun _ h => h) rfl dX11_forget_4 ?_
  refine lv_istore_n (lv' := [(1, .int rc), (0, .ref h0)]) hx hb dX11_forget_7 rfl hl (by decide) rfl (fun ls hl => ?_)
  refine lv_aload_n hx hb dX11_forget_8 rfl (lv_at hl 1 rfl) ?_
  refine va_get (D := g.1) (ci := 11) (v := .ref ra) (C := RX11) (T := TX11) (N := 15) hx hb hts hc_X11_forget_X11 hown hK hP 0 rfl rfl 8 (by decide) (hts (.fieldLink RX11 55 "OilPush" "readings" "LOilPush$Readings;") (List.mem_of_getElem? (i := 1) rfl)) (fun _ h => h) rfl dX11_forget_9 ?_
  refine lv_iconst (v := 0) hx hb dX11_forget_12 (by decide) ?_
  refine va_put (D := g.1) (ci := 5) (v := .int 0) (ty := .int) (C := RX5) (T := TX5) (N := 4) hx hb hts hc_X11_forget_X5 tyX5 tyX5_ok nmX5 hown hK hP hD hS 1 rfl rfl 3 (by decide) (hts (.fieldLink RX11 256 "OilPush$Readings" "count" "I") (List.mem_of_getElem? (i := 2) rfl)) (fun _ h => h) rfl (by decide +kernel) rfl rfl (Nat.le_of_ble_eq_true rfl) dX11_forget_13 (fun H locs hP hD hS => ?_)
  replace hP : va_P g.1 vwCl [(h0, .inr (11, [.ref pl, .ref sa, .ref ea, .ref oa, .ref tsa, .ref usa, .ref vea, .ref lka, .ref ra, .ref sha, .ref tra, .int lf, .int std, .int tkd, .int tck])), (ra, .inr (5, [.ref rt, .ref ro, .ref rx, .int 0]))] H := hP
  replace hD : va_D A [(h0, .inr (11, [.ref pl, .ref sa, .ref ea, .ref oa, .ref tsa, .ref usa, .ref vea, .ref lka, .ref ra, .ref sha, .ref tra, .int lf, .int std, .int tkd, .int tck])), (ra, .inr (5, [.ref rt, .ref ro, .ref rx, .int 0]))] := hD
  refine lv_iload_n hx hb dX11_forget_16 rfl (lv_at hl 0 rfl) ?_
  exact retI C hS () rfl (hP.pick [0, 1] rfl) (hD.sub [0, 1] rfl rfl) (Nat.le_of_ble_eq_true rfl) (Nat.le_of_ble_eq_true rfl) dX11_forget_17
theorem hc_X11_trace_X11 : ∀ w ∈ wsX110, w ∈ wsX11_trace := fun w h => List.mem_cons_of_mem _ (List.mem_append_left _ (List.mem_append_right _ h))
theorem hc_X11_trace_X9 : ∀ w ∈ wsX90, w ∈ wsX11_trace := fun w h => List.mem_cons_of_mem _ (List.mem_append_right _ h)
set_option maxRecDepth 100000 in
set_option maxHeartbeats 4000000 in
theorem x_trace (l : Launch) (g : Gt) (h0 : Nat) (sha : Nat) (tra : Nat) (lf : Int32) (std : Int32) (tkd : Int32) (tck : Int32) (sa : Nat) (ea : Nat) (oa : Nat) (tsa : Nat) (usa : Nat) (vea : Nat) (lka : Nat) (ra : Nat) (pl : Nat) (tv : Int32)  : Ctr l g yX11_trace wsX11_trace ({ frames := 0, cells := 0, slots := 0, locals := 0 } : Room) [.ref h0] [(h0, .inr (11, [.ref pl, .ref sa, .ref ea, .ref oa, .ref tsa, .ref usa, .ref vea, .ref lka, .ref ra, .ref sha, .ref tra, .int lf, .int std, .int tkd, .int tck])), (tra, .inr (9, [.int tv]))] (fun A => QI g A (fun r (_ : Unit) => r = tv) (fun _u : Unit => [(h0, .inr (11, [.ref pl, .ref sa, .ref ea, .ref oa, .ref tsa, .ref usa, .ref vea, .ref lka, .ref ra, .ref sha, .ref tra, .int lf, .int std, .int tkd, .int tck])), (tra, .inr (9, [.int tv]))])) := by
  refine Ctr.of (cc := cX11_trace) (maxL := 1) (ret := (some .int)) (by decide) rfl (Nat.le_of_ble_eq_true rfl) ?_
  intro p e s m below meth c A ls H C hP hD hA hS hl
  obtain ⟨hx, hb, hr, hts, hown, hlocks, hml, hin, hKN⟩ := id C
  have hK := hKN.1
  have hN := hKN.2
  have F : CallFix p m c cX11_trace 1 s _ wsX11_trace yX11_trace.cls := ⟨hx, hb, hml, hown, hts⟩
  have hl : lv_has ls 1 [(0, .ref h0)] := hl
  refine lv_aload_n hx hb dX11_trace_0 rfl (lv_at hl 0 rfl) ?_
  refine va_get (D := g.1) (ci := 11) (v := .ref tra) (C := RX11) (T := TX11) (N := 15) hx hb hts hc_X11_trace_X11 hown hK hP 0 rfl rfl 10 (by decide) (hts (.fieldLink RX11 68 "OilPush" "trace" "LOilPush$Trace;") (List.mem_of_getElem? (i := 1) rfl)) (fun _ h => h) rfl dX11_trace_1 ?_
  refine va_get (D := g.1) (ci := 9) (v := .int tv) (C := RX9) (T := TX9) (N := 1) hx hb hts hc_X11_trace_X9 hown hK hP 1 rfl rfl 0 (by decide) (hts (.fieldLink RX11 304 "OilPush$Trace" "value" "I") (List.mem_of_getElem? (i := 2) rfl)) (fun _ h => h) rfl dX11_trace_4 ?_
  exact retI C hS () rfl (hP.pick [0, 1] rfl) (hD.sub [0, 1] rfl rfl) (Nat.le_of_ble_eq_true rfl) (Nat.le_of_ble_eq_true rfl) dX11_trace_7
theorem hc_X11_fault_X11 : ∀ w ∈ wsX110, w ∈ wsX11_fault := fun w h => List.mem_cons_of_mem _ (List.mem_append_right _ h)
set_option maxRecDepth 100000 in
set_option maxHeartbeats 4000000 in
theorem x_fault (l : Launch) (g : Gt) (h0 : Nat) (sha : Nat) (tra : Nat) (lf : Int32) (std : Int32) (tkd : Int32) (tck : Int32) (sa : Nat) (ea : Nat) (oa : Nat) (tsa : Nat) (usa : Nat) (vea : Nat) (lka : Nat) (ra : Nat) (pl : Nat)  : Ctr l g yX11_fault wsX11_fault ({ frames := 0, cells := 0, slots := 0, locals := 0 } : Room) [.ref h0] [(h0, .inr (11, [.ref pl, .ref sa, .ref ea, .ref oa, .ref tsa, .ref usa, .ref vea, .ref lka, .ref ra, .ref sha, .ref tra, .int lf, .int std, .int tkd, .int tck]))] (fun A => QI g A (fun r (_ : Unit) => r = lf) (fun _u : Unit => [(h0, .inr (11, [.ref pl, .ref sa, .ref ea, .ref oa, .ref tsa, .ref usa, .ref vea, .ref lka, .ref ra, .ref sha, .ref tra, .int lf, .int std, .int tkd, .int tck]))])) := by
  refine Ctr.of (cc := cX11_fault) (maxL := 1) (ret := (some .int)) (by decide) rfl (Nat.le_of_ble_eq_true rfl) ?_
  intro p e s m below meth c A ls H C hP hD hA hS hl
  obtain ⟨hx, hb, hr, hts, hown, hlocks, hml, hin, hKN⟩ := id C
  have hK := hKN.1
  have hN := hKN.2
  have F : CallFix p m c cX11_fault 1 s _ wsX11_fault yX11_fault.cls := ⟨hx, hb, hml, hown, hts⟩
  have hl : lv_has ls 1 [(0, .ref h0)] := hl
  refine lv_aload_n hx hb dX11_fault_0 rfl (lv_at hl 0 rfl) ?_
  refine va_get (D := g.1) (ci := 11) (v := .int lf) (C := RX11) (T := TX11) (N := 15) hx hb hts hc_X11_fault_X11 hown hK hP 0 rfl rfl 11 (by decide) (hts (.fieldLink RX11 110 "OilPush" "latestFault" "I") (List.mem_of_getElem? (i := 1) rfl)) (fun _ h => h) rfl dX11_fault_1 ?_
  exact retI C hS () rfl (hP.pick [0] rfl) (hD.sub [0] rfl rfl) (Nat.le_of_ble_eq_true rfl) (Nat.le_of_ble_eq_true rfl) dX11_fault_4
theorem hc_X11_store_X11 : ∀ w ∈ wsX110, w ∈ wsX11_store := fun w h => List.mem_cons_of_mem _ (List.mem_append_left _ (List.mem_append_left _ (List.mem_append_right _ h)))
theorem hc_X11_store_X7 : ∀ w ∈ wsX70, w ∈ wsX11_store := fun w h => List.mem_cons_of_mem _ (List.mem_append_left _ (List.mem_append_right _ h))
theorem hc_X11_store_X8 : ∀ w ∈ wsX80, w ∈ wsX11_store := fun w h => List.mem_cons_of_mem _ (List.mem_append_right _ h)
def r_x_store (sol : Int32) (x1_ : Int32) (x2_ : Int32) (x3_ : Int32) : Int32 := (if (r_c_within x1_ 0 5000) = 0 then (-2) else (if (r_c_within x2_ 0 1000) = 0 then (-2) else (if (r_c_within x3_ 1 100) = 0 then (-2) else (if sol ≤ x1_ then 1 else (-3)))))
def o_x_store_0 (cap : Int32) (sol : Int32) (x1_ : Int32) (x2_ : Int32) (x3_ : Int32) : Int32 := (if (r_c_within x1_ 0 5000) = 0 then cap else (if (r_c_within x2_ 0 1000) = 0 then cap else (if (r_c_within x3_ 1 100) = 0 then cap else (if sol ≤ x1_ then x1_ else cap))))
def o_x_store_1 (fst : Int32) (sol : Int32) (x1_ : Int32) (x2_ : Int32) (x3_ : Int32) : Int32 := (if (r_c_within x1_ 0 5000) = 0 then fst else (if (r_c_within x2_ 0 1000) = 0 then fst else (if (r_c_within x3_ 1 100) = 0 then fst else (if sol ≤ x1_ then x2_ else fst))))
def o_x_store_2 (stf : Int32) (sol : Int32) (x1_ : Int32) (x2_ : Int32) (x3_ : Int32) : Int32 := (if (r_c_within x1_ 0 5000) = 0 then stf else (if (r_c_within x2_ 0 1000) = 0 then stf else (if (r_c_within x3_ 1 100) = 0 then stf else (if sol ≤ x1_ then x3_ else stf))))
set_option maxRecDepth 100000 in
set_option maxHeartbeats 4000000 in
theorem x_store (l : Launch) (g : Gt) (h0 : Nat) (sha : Nat) (tra : Nat) (lf : Int32) (std : Int32) (tkd : Int32) (tck : Int32) (sa : Nat) (ea : Nat) (oa : Nat) (tsa : Nat) (usa : Nat) (vea : Nat) (lka : Nat) (ra : Nat) (pl : Nat) (so : Nat) (sv : Nat) (sb : Nat) (ss : Nat) (wt : Int32) (cap : Int32) (fst : Int32) (stf : Int32) (sol : Int32) (x1_ : Int32) (x2_ : Int32) (x3_ : Int32)  : Ctr l g yX11_store wsX11_store ({ frames := 1, cells := 0, slots := 0, locals := 22 } : Room) [.ref h0, .int x1_, .int x2_, .int x3_] [(h0, .inr (11, [.ref pl, .ref sa, .ref ea, .ref oa, .ref tsa, .ref usa, .ref vea, .ref lka, .ref ra, .ref sha, .ref tra, .int lf, .int std, .int tkd, .int tck])), (sa, .inr (7, [.ref so, .ref sv, .ref sb, .ref ss, .int wt])), (ss, .inr (8, [.int cap, .int fst, .int stf, .int sol]))] (fun A => QI g A (fun r (_ : Unit) => r = (r_x_store sol x1_ x2_ x3_)) (fun _u : Unit => [(h0, .inr (11, [.ref pl, .ref sa, .ref ea, .ref oa, .ref tsa, .ref usa, .ref vea, .ref lka, .ref ra, .ref sha, .ref tra, .int lf, .int std, .int tkd, .int tck])), (sa, .inr (7, [.ref so, .ref sv, .ref sb, .ref ss, .int wt])), (ss, .inr (8, [.int (o_x_store_0 cap sol x1_ x2_ x3_), .int (o_x_store_1 fst sol x1_ x2_ x3_), .int (o_x_store_2 stf sol x1_ x2_ x3_), .int sol]))])) := by
  refine Ctr.of (cc := cX11_store) (maxL := 4) (ret := (some .int)) (by decide) rfl (Nat.le_of_ble_eq_true rfl) ?_
  intro p e s m below meth c A ls H C hP hD hA hS hl
  obtain ⟨hx, hb, hr, hts, hown, hlocks, hml, hin, hKN⟩ := id C
  have hK := hKN.1
  have hN := hKN.2
  have F : CallFix p m c cX11_store 4 s _ wsX11_store yX11_store.cls := ⟨hx, hb, hml, hown, hts⟩
  have hl : lv_has ls 4 [(0, .ref h0), (1, .int x1_), (2, .int x2_), (3, .int x3_)] := hl
  refine lv_iload_n hx hb dX11_store_0 rfl (lv_at hl 1 rfl) ?_
  refine lv_iconst (v := 0) hx hb dX11_store_1 (by decide) ?_
  refine lv_sipush (v := 5000) hx hb dX11_store_2 (by decide) ?_
  refine pureIS (As := [.int x1_, .int 0, .int 5000]) (rest := []) F (c_within l x1_ 0 5000) 3 gX11_store_X11_within rfl (by decide +kernel) rfl rfl ⟨(Nat.le_of_ble_eq_true rfl), (Nat.le_of_ble_eq_true rfl)⟩ (Nat.le_of_ble_eq_true rfl) (Nat.le_of_ble_eq_true rfl) rfl hl.1 rfl (Nat.le_of_ble_eq_true rfl) dX11_store_5 ?_
  refine lv_if_eq (tgt := 32) hx hb dX11_store_8 (by decide) (fun c1 => ?_) (fun c1 => ?_)
  · refine lv_bipush (v := -2) hx hb dX11_store_32 (by decide) ?_
    have e90 : (o_x_store_0 cap sol x1_ x2_ x3_) = cap := by unfold o_x_store_0; rw [if_pos c1]
    have e91 : (o_x_store_1 fst sol x1_ x2_ x3_) = fst := by unfold o_x_store_1; rw [if_pos c1]
    have e92 : (o_x_store_2 stf sol x1_ x2_ x3_) = stf := by unfold o_x_store_2; rw [if_pos c1]
    have hP : va_P g.1 vwCl [(h0, .inr (11, [.ref pl, .ref sa, .ref ea, .ref oa, .ref tsa, .ref usa, .ref vea, .ref lka, .ref ra, .ref sha, .ref tra, .int lf, .int std, .int tkd, .int tck])), (sa, .inr (7, [.ref so, .ref sv, .ref sb, .ref ss, .int wt])), (ss, .inr (8, [.int (o_x_store_0 cap sol x1_ x2_ x3_), .int (o_x_store_1 fst sol x1_ x2_ x3_), .int (o_x_store_2 stf sol x1_ x2_ x3_), .int sol]))] H := by rw [e90, e91, e92]; exact hP
    have hD : va_D A [(h0, .inr (11, [.ref pl, .ref sa, .ref ea, .ref oa, .ref tsa, .ref usa, .ref vea, .ref lka, .ref ra, .ref sha, .ref tra, .int lf, .int std, .int tkd, .int tck])), (sa, .inr (7, [.ref so, .ref sv, .ref sb, .ref ss, .int wt])), (ss, .inr (8, [.int (o_x_store_0 cap sol x1_ x2_ x3_), .int (o_x_store_1 fst sol x1_ x2_ x3_), .int (o_x_store_2 stf sol x1_ x2_ x3_), .int sol]))] := by rw [e90, e91, e92]; exact hD
    exact retI C hS () (by unfold r_x_store; rw [if_pos c1]) (hP.pick [0, 1, 2] rfl) (hD.sub [0, 1, 2] rfl rfl) (Nat.le_of_ble_eq_true rfl) (Nat.le_of_ble_eq_true rfl) dX11_store_34
  refine lv_iload_n hx hb dX11_store_11 rfl (lv_at hl 2 rfl) ?_
  refine lv_iconst (v := 0) hx hb dX11_store_12 (by decide) ?_
  refine lv_sipush (v := 1000) hx hb dX11_store_13 (by decide) ?_
  refine pureIS (As := [.int x2_, .int 0, .int 1000]) (rest := []) F (c_within l x2_ 0 1000) 3 gX11_store_X11_within rfl (by decide +kernel) rfl rfl ⟨(Nat.le_of_ble_eq_true rfl), (Nat.le_of_ble_eq_true rfl)⟩ (Nat.le_of_ble_eq_true rfl) (Nat.le_of_ble_eq_true rfl) rfl hl.1 rfl (Nat.le_of_ble_eq_true rfl) dX11_store_16 ?_
  refine lv_if_eq (tgt := 32) hx hb dX11_store_19 (by decide) (fun c2 => ?_) (fun c2 => ?_)
  · refine lv_bipush (v := -2) hx hb dX11_store_32 (by decide) ?_
    have e90 : (o_x_store_0 cap sol x1_ x2_ x3_) = cap := by unfold o_x_store_0; rw [if_neg c1, if_pos c2]
    have e91 : (o_x_store_1 fst sol x1_ x2_ x3_) = fst := by unfold o_x_store_1; rw [if_neg c1, if_pos c2]
    have e92 : (o_x_store_2 stf sol x1_ x2_ x3_) = stf := by unfold o_x_store_2; rw [if_neg c1, if_pos c2]
    have hP : va_P g.1 vwCl [(h0, .inr (11, [.ref pl, .ref sa, .ref ea, .ref oa, .ref tsa, .ref usa, .ref vea, .ref lka, .ref ra, .ref sha, .ref tra, .int lf, .int std, .int tkd, .int tck])), (sa, .inr (7, [.ref so, .ref sv, .ref sb, .ref ss, .int wt])), (ss, .inr (8, [.int (o_x_store_0 cap sol x1_ x2_ x3_), .int (o_x_store_1 fst sol x1_ x2_ x3_), .int (o_x_store_2 stf sol x1_ x2_ x3_), .int sol]))] H := by rw [e90, e91, e92]; exact hP
    have hD : va_D A [(h0, .inr (11, [.ref pl, .ref sa, .ref ea, .ref oa, .ref tsa, .ref usa, .ref vea, .ref lka, .ref ra, .ref sha, .ref tra, .int lf, .int std, .int tkd, .int tck])), (sa, .inr (7, [.ref so, .ref sv, .ref sb, .ref ss, .int wt])), (ss, .inr (8, [.int (o_x_store_0 cap sol x1_ x2_ x3_), .int (o_x_store_1 fst sol x1_ x2_ x3_), .int (o_x_store_2 stf sol x1_ x2_ x3_), .int sol]))] := by rw [e90, e91, e92]; exact hD
    exact retI C hS () (by unfold r_x_store; rw [if_neg c1, if_pos c2]) (hP.pick [0, 1, 2] rfl) (hD.sub [0, 1, 2] rfl rfl) (Nat.le_of_ble_eq_true rfl) (Nat.le_of_ble_eq_true rfl) dX11_store_34
  refine lv_iload_n hx hb dX11_store_22 rfl (lv_at hl 3 rfl) ?_
  refine lv_iconst (v := 1) hx hb dX11_store_23 (by decide) ?_
  refine lv_bipush (v := 100) hx hb dX11_store_24 (by decide) ?_
  refine pureIS (As := [.int x3_, .int 1, .int 100]) (rest := []) F (c_within l x3_ 1 100) 3 gX11_store_X11_within rfl (by decide +kernel) rfl rfl ⟨(Nat.le_of_ble_eq_true rfl), (Nat.le_of_ble_eq_true rfl)⟩ (Nat.le_of_ble_eq_true rfl) (Nat.le_of_ble_eq_true rfl) rfl hl.1 rfl (Nat.le_of_ble_eq_true rfl) dX11_store_26 ?_
  refine lv_if_ne (tgt := 35) hx hb dX11_store_29 (by decide) (fun c3 => ?_) (fun c3 => ?_)
  · refine lv_aload_n hx hb dX11_store_35 rfl (lv_at hl 0 rfl) ?_
    refine va_get (D := g.1) (ci := 11) (v := .ref sa) (C := RX11) (T := TX11) (N := 15) hx hb hts hc_X11_store_X11 hown hK hP 0 rfl rfl 1 (by decide) (hts (.fieldLink RX11 21 "OilPush" "now" "LOilPush$State;") (List.mem_of_getElem? (i := 1) rfl)) (fun _ h => h) rfl dX11_store_36 ?_
    refine va_get (D := g.1) (ci := 7) (v := .ref ss) (C := RX7) (T := TX7) (N := 5) hx hb hts hc_X11_store_X7 hown hK hP 1 rfl rfl 3 (by decide) (hts (.fieldLink RX11 155 "OilPush$State" "store" "LOilPush$Store;") (List.mem_of_getElem? (i := 2) rfl)) (fun _ h => h) rfl dX11_store_39 ?_
    refine va_get (D := g.1) (ci := 8) (v := .int sol) (C := RX8) (T := TX8) (N := 4) hx hb hts hc_X11_store_X8 hown hK hP 2 rfl rfl 3 (by decide) (hts (.fieldLink RX11 159 "OilPush$Store" "oil" "I") (List.mem_of_getElem? (i := 3) rfl)) (fun _ h => h) rfl dX11_store_42 ?_
    refine lv_iload_n hx hb dX11_store_45 rfl (lv_at hl 1 rfl) ?_
    refine lv_icmp_le (tgt := 52) hx hb dX11_store_46 (by decide) (fun c4 => ?_) (fun c4 => ?_)
    · refine lv_aload_n hx hb dX11_store_52 rfl (lv_at hl 0 rfl) ?_
      refine va_get (D := g.1) (ci := 11) (v := .ref sa) (C := RX11) (T := TX11) (N := 15) hx hb hts hc_X11_store_X11 hown hK hP 0 rfl rfl 1 (by decide) (hts (.fieldLink RX11 21 "OilPush" "now" "LOilPush$State;") (List.mem_of_getElem? (i := 1) rfl)) (fun _ h => h) rfl dX11_store_53 ?_
      refine va_get (D := g.1) (ci := 7) (v := .ref ss) (C := RX7) (T := TX7) (N := 5) hx hb hts hc_X11_store_X7 hown hK hP 1 rfl rfl 3 (by decide) (hts (.fieldLink RX11 155 "OilPush$State" "store" "LOilPush$Store;") (List.mem_of_getElem? (i := 2) rfl)) (fun _ h => h) rfl dX11_store_56 ?_
      refine lv_iload_n hx hb dX11_store_59 rfl (lv_at hl 1 rfl) ?_
      refine va_put (D := g.1) (ci := 8) (v := .int x1_) (ty := .int) (C := RX8) (T := TX8) (N := 4) hx hb hts hc_X11_store_X8 tyX8 tyX8_ok nmX8 hown hK hP hD hS 2 rfl rfl 0 (by decide) (hts (.fieldLink RX11 163 "OilPush$Store" "cap" "I") (List.mem_of_getElem? (i := 4) rfl)) (fun _ h => h) rfl (by decide +kernel) rfl rfl (Nat.le_of_ble_eq_true rfl) dX11_store_60 (fun H locs hP hD hS => ?_)
      replace hP : va_P g.1 vwCl [(h0, .inr (11, [.ref pl, .ref sa, .ref ea, .ref oa, .ref tsa, .ref usa, .ref vea, .ref lka, .ref ra, .ref sha, .ref tra, .int lf, .int std, .int tkd, .int tck])), (sa, .inr (7, [.ref so, .ref sv, .ref sb, .ref ss, .int wt])), (ss, .inr (8, [.int x1_, .int fst, .int stf, .int sol]))] H := hP
      replace hD : va_D A [(h0, .inr (11, [.ref pl, .ref sa, .ref ea, .ref oa, .ref tsa, .ref usa, .ref vea, .ref lka, .ref ra, .ref sha, .ref tra, .int lf, .int std, .int tkd, .int tck])), (sa, .inr (7, [.ref so, .ref sv, .ref sb, .ref ss, .int wt])), (ss, .inr (8, [.int x1_, .int fst, .int stf, .int sol]))] := hD
      refine lv_aload_n hx hb dX11_store_63 rfl (lv_at hl 0 rfl) ?_
      refine va_get (D := g.1) (ci := 11) (v := .ref sa) (C := RX11) (T := TX11) (N := 15) hx hb hts hc_X11_store_X11 hown hK hP 0 rfl rfl 1 (by decide) (hts (.fieldLink RX11 21 "OilPush" "now" "LOilPush$State;") (List.mem_of_getElem? (i := 1) rfl)) (fun _ h => h) rfl dX11_store_64 ?_
      refine va_get (D := g.1) (ci := 7) (v := .ref ss) (C := RX7) (T := TX7) (N := 5) hx hb hts hc_X11_store_X7 hown hK hP 1 rfl rfl 3 (by decide) (hts (.fieldLink RX11 155 "OilPush$State" "store" "LOilPush$Store;") (List.mem_of_getElem? (i := 2) rfl)) (fun _ h => h) rfl dX11_store_67 ?_
      refine lv_iload_n hx hb dX11_store_70 rfl (lv_at hl 2 rfl) ?_
      refine va_put (D := g.1) (ci := 8) (v := .int x2_) (ty := .int) (C := RX8) (T := TX8) (N := 4) hx hb hts hc_X11_store_X8 tyX8 tyX8_ok nmX8 hown hK hP hD hS 2 rfl rfl 1 (by decide) (hts (.fieldLink RX11 166 "OilPush$Store" "first" "I") (List.mem_of_getElem? (i := 5) rfl)) (fun _ h => h) rfl (by decide +kernel) rfl rfl (Nat.le_of_ble_eq_true rfl) dX11_store_71 (fun H locs hP hD hS => ?_)
      replace hP : va_P g.1 vwCl [(h0, .inr (11, [.ref pl, .ref sa, .ref ea, .ref oa, .ref tsa, .ref usa, .ref vea, .ref lka, .ref ra, .ref sha, .ref tra, .int lf, .int std, .int tkd, .int tck])), (sa, .inr (7, [.ref so, .ref sv, .ref sb, .ref ss, .int wt])), (ss, .inr (8, [.int x1_, .int x2_, .int stf, .int sol]))] H := hP
      replace hD : va_D A [(h0, .inr (11, [.ref pl, .ref sa, .ref ea, .ref oa, .ref tsa, .ref usa, .ref vea, .ref lka, .ref ra, .ref sha, .ref tra, .int lf, .int std, .int tkd, .int tck])), (sa, .inr (7, [.ref so, .ref sv, .ref sb, .ref ss, .int wt])), (ss, .inr (8, [.int x1_, .int x2_, .int stf, .int sol]))] := hD
      refine lv_aload_n hx hb dX11_store_74 rfl (lv_at hl 0 rfl) ?_
      refine va_get (D := g.1) (ci := 11) (v := .ref sa) (C := RX11) (T := TX11) (N := 15) hx hb hts hc_X11_store_X11 hown hK hP 0 rfl rfl 1 (by decide) (hts (.fieldLink RX11 21 "OilPush" "now" "LOilPush$State;") (List.mem_of_getElem? (i := 1) rfl)) (fun _ h => h) rfl dX11_store_75 ?_
      refine va_get (D := g.1) (ci := 7) (v := .ref ss) (C := RX7) (T := TX7) (N := 5) hx hb hts hc_X11_store_X7 hown hK hP 1 rfl rfl 3 (by decide) (hts (.fieldLink RX11 155 "OilPush$State" "store" "LOilPush$Store;") (List.mem_of_getElem? (i := 2) rfl)) (fun _ h => h) rfl dX11_store_78 ?_
      refine lv_iload_n hx hb dX11_store_81 rfl (lv_at hl 3 rfl) ?_
      refine va_put (D := g.1) (ci := 8) (v := .int x3_) (ty := .int) (C := RX8) (T := TX8) (N := 4) hx hb hts hc_X11_store_X8 tyX8 tyX8_ok nmX8 hown hK hP hD hS 2 rfl rfl 2 (by decide) (hts (.fieldLink RX11 169 "OilPush$Store" "stiff" "I") (List.mem_of_getElem? (i := 6) rfl)) (fun _ h => h) rfl (by decide +kernel) rfl rfl (Nat.le_of_ble_eq_true rfl) dX11_store_82 (fun H locs hP hD hS => ?_)
      replace hP : va_P g.1 vwCl [(h0, .inr (11, [.ref pl, .ref sa, .ref ea, .ref oa, .ref tsa, .ref usa, .ref vea, .ref lka, .ref ra, .ref sha, .ref tra, .int lf, .int std, .int tkd, .int tck])), (sa, .inr (7, [.ref so, .ref sv, .ref sb, .ref ss, .int wt])), (ss, .inr (8, [.int x1_, .int x2_, .int x3_, .int sol]))] H := hP
      replace hD : va_D A [(h0, .inr (11, [.ref pl, .ref sa, .ref ea, .ref oa, .ref tsa, .ref usa, .ref vea, .ref lka, .ref ra, .ref sha, .ref tra, .int lf, .int std, .int tkd, .int tck])), (sa, .inr (7, [.ref so, .ref sv, .ref sb, .ref ss, .int wt])), (ss, .inr (8, [.int x1_, .int x2_, .int x3_, .int sol]))] := hD
      refine lv_iconst (v := 1) hx hb dX11_store_85 (by decide) ?_
      have e90 : (o_x_store_0 cap sol x1_ x2_ x3_) = x1_ := by unfold o_x_store_0; rw [if_neg c1, if_neg c2, if_neg c3, if_pos c4]
      have e91 : (o_x_store_1 fst sol x1_ x2_ x3_) = x2_ := by unfold o_x_store_1; rw [if_neg c1, if_neg c2, if_neg c3, if_pos c4]
      have e92 : (o_x_store_2 stf sol x1_ x2_ x3_) = x3_ := by unfold o_x_store_2; rw [if_neg c1, if_neg c2, if_neg c3, if_pos c4]
      have hP : va_P g.1 vwCl [(h0, .inr (11, [.ref pl, .ref sa, .ref ea, .ref oa, .ref tsa, .ref usa, .ref vea, .ref lka, .ref ra, .ref sha, .ref tra, .int lf, .int std, .int tkd, .int tck])), (sa, .inr (7, [.ref so, .ref sv, .ref sb, .ref ss, .int wt])), (ss, .inr (8, [.int (o_x_store_0 cap sol x1_ x2_ x3_), .int (o_x_store_1 fst sol x1_ x2_ x3_), .int (o_x_store_2 stf sol x1_ x2_ x3_), .int sol]))] H := by rw [e90, e91, e92]; exact hP
      have hD : va_D A [(h0, .inr (11, [.ref pl, .ref sa, .ref ea, .ref oa, .ref tsa, .ref usa, .ref vea, .ref lka, .ref ra, .ref sha, .ref tra, .int lf, .int std, .int tkd, .int tck])), (sa, .inr (7, [.ref so, .ref sv, .ref sb, .ref ss, .int wt])), (ss, .inr (8, [.int (o_x_store_0 cap sol x1_ x2_ x3_), .int (o_x_store_1 fst sol x1_ x2_ x3_), .int (o_x_store_2 stf sol x1_ x2_ x3_), .int sol]))] := by rw [e90, e91, e92]; exact hD
      exact retI C hS () (by unfold r_x_store; rw [if_neg c1, if_neg c2, if_neg c3, if_pos c4]) (hP.pick [0, 1, 2] rfl) (hD.sub [0, 1, 2] rfl rfl) (Nat.le_of_ble_eq_true rfl) (Nat.le_of_ble_eq_true rfl) dX11_store_86
    refine lv_bipush (v := -3) hx hb dX11_store_49 (by decide) ?_
    have e90 : (o_x_store_0 cap sol x1_ x2_ x3_) = cap := by unfold o_x_store_0; rw [if_neg c1, if_neg c2, if_neg c3, if_neg c4]
    have e91 : (o_x_store_1 fst sol x1_ x2_ x3_) = fst := by unfold o_x_store_1; rw [if_neg c1, if_neg c2, if_neg c3, if_neg c4]
    have e92 : (o_x_store_2 stf sol x1_ x2_ x3_) = stf := by unfold o_x_store_2; rw [if_neg c1, if_neg c2, if_neg c3, if_neg c4]
    have hP : va_P g.1 vwCl [(h0, .inr (11, [.ref pl, .ref sa, .ref ea, .ref oa, .ref tsa, .ref usa, .ref vea, .ref lka, .ref ra, .ref sha, .ref tra, .int lf, .int std, .int tkd, .int tck])), (sa, .inr (7, [.ref so, .ref sv, .ref sb, .ref ss, .int wt])), (ss, .inr (8, [.int (o_x_store_0 cap sol x1_ x2_ x3_), .int (o_x_store_1 fst sol x1_ x2_ x3_), .int (o_x_store_2 stf sol x1_ x2_ x3_), .int sol]))] H := by rw [e90, e91, e92]; exact hP
    have hD : va_D A [(h0, .inr (11, [.ref pl, .ref sa, .ref ea, .ref oa, .ref tsa, .ref usa, .ref vea, .ref lka, .ref ra, .ref sha, .ref tra, .int lf, .int std, .int tkd, .int tck])), (sa, .inr (7, [.ref so, .ref sv, .ref sb, .ref ss, .int wt])), (ss, .inr (8, [.int (o_x_store_0 cap sol x1_ x2_ x3_), .int (o_x_store_1 fst sol x1_ x2_ x3_), .int (o_x_store_2 stf sol x1_ x2_ x3_), .int sol]))] := by rw [e90, e91, e92]; exact hD
    exact retI C hS () (by unfold r_x_store; rw [if_neg c1, if_neg c2, if_neg c3, if_neg c4]) (hP.pick [0, 1, 2] rfl) (hD.sub [0, 1, 2] rfl rfl) (Nat.le_of_ble_eq_true rfl) (Nat.le_of_ble_eq_true rfl) dX11_store_51
  refine lv_bipush (v := -2) hx hb dX11_store_32 (by decide) ?_
  have e90 : (o_x_store_0 cap sol x1_ x2_ x3_) = cap := by unfold o_x_store_0; rw [if_neg c1, if_neg c2, if_pos c3]
  have e91 : (o_x_store_1 fst sol x1_ x2_ x3_) = fst := by unfold o_x_store_1; rw [if_neg c1, if_neg c2, if_pos c3]
  have e92 : (o_x_store_2 stf sol x1_ x2_ x3_) = stf := by unfold o_x_store_2; rw [if_neg c1, if_neg c2, if_pos c3]
  have hP : va_P g.1 vwCl [(h0, .inr (11, [.ref pl, .ref sa, .ref ea, .ref oa, .ref tsa, .ref usa, .ref vea, .ref lka, .ref ra, .ref sha, .ref tra, .int lf, .int std, .int tkd, .int tck])), (sa, .inr (7, [.ref so, .ref sv, .ref sb, .ref ss, .int wt])), (ss, .inr (8, [.int (o_x_store_0 cap sol x1_ x2_ x3_), .int (o_x_store_1 fst sol x1_ x2_ x3_), .int (o_x_store_2 stf sol x1_ x2_ x3_), .int sol]))] H := by rw [e90, e91, e92]; exact hP
  have hD : va_D A [(h0, .inr (11, [.ref pl, .ref sa, .ref ea, .ref oa, .ref tsa, .ref usa, .ref vea, .ref lka, .ref ra, .ref sha, .ref tra, .int lf, .int std, .int tkd, .int tck])), (sa, .inr (7, [.ref so, .ref sv, .ref sb, .ref ss, .int wt])), (ss, .inr (8, [.int (o_x_store_0 cap sol x1_ x2_ x3_), .int (o_x_store_1 fst sol x1_ x2_ x3_), .int (o_x_store_2 stf sol x1_ x2_ x3_), .int sol]))] := by rw [e90, e91, e92]; exact hD
  exact retI C hS () (by unfold r_x_store; rw [if_neg c1, if_neg c2, if_pos c3]) (hP.pick [0, 1, 2] rfl) (hD.sub [0, 1, 2] rfl rfl) (Nat.le_of_ble_eq_true rfl) (Nat.le_of_ble_eq_true rfl) dX11_store_34
theorem hc_X11_valve_X11 : ∀ w ∈ wsX110, w ∈ wsX11_valve := fun w h => List.mem_cons_of_mem _ (List.mem_append_left _ (List.mem_append_left _ (List.mem_append_right _ h)))
theorem hc_X11_valve_X7 : ∀ w ∈ wsX70, w ∈ wsX11_valve := fun w h => List.mem_cons_of_mem _ (List.mem_append_left _ (List.mem_append_right _ h))
set_option maxRecDepth 100000 in
set_option maxHeartbeats 4000000 in
theorem x_valve (l : Launch) (g : Gt) (h0 : Nat) (sha : Nat) (tra : Nat) (lf : Int32) (std : Int32) (tkd : Int32) (tck : Int32) (sa : Nat) (ea : Nat) (oa : Nat) (tsa : Nat) (usa : Nat) (vea : Nat) (lka : Nat) (ra : Nat) (pl : Nat) (gv : Int32) (lim : Int32) (ca : Nat) (cnt : Int32) (la : Nat) (fc : Nat → Option Nat) (so : Nat) (sv : Nat) (sb : Nat) (ss : Nat) (wt : Int32) (fv : Nat → Int32) (cy : Int32) (v : Int32)  : Ctr l g yX11_valve wsX11_valve ({ frames := 2, cells := 0, slots := 0, locals := 45 } : Room) [.ref h0, .int cy, .int v] [(h0, .inr (11, [.ref pl, .ref sa, .ref ea, .ref oa, .ref tsa, .ref usa, .ref vea, .ref lka, .ref ra, .ref sha, .ref tra, .int lf, .int std, .int tkd, .int tck])), (pl, .inr (4, [.int gv, .int lim, .ref ca, .int cnt, .ref la])), (ca, .inl (g.2 3, 6, .inr (.inr (.inr (.inr fc))))), (sa, .inr (7, [.ref so, .ref sv, .ref sb, .ref ss, .int wt])), (sv, .inl (g.2 0, 6, .inl fv))] (fun A => QI g A (fun r (u : (Nat → Int32)) => True) (fun (u : (Nat → Int32)) => [(h0, .inr (11, [.ref pl, .ref sa, .ref ea, .ref oa, .ref tsa, .ref usa, .ref vea, .ref lka, .ref ra, .ref sha, .ref tra, .int lf, .int std, .int tkd, .int tck])), (pl, .inr (4, [.int gv, .int lim, .ref ca, .int cnt, .ref la])), (ca, .inl (g.2 3, 6, .inr (.inr (.inr (.inr fc))))), (sa, .inr (7, [.ref so, .ref sv, .ref sb, .ref ss, .int wt])), (sv, .inl (g.2 0, 6, .inl u))])) := by
  refine Ctr.of (cc := cX11_valve) (maxL := 3) (ret := (some .int)) (by decide) rfl (Nat.le_of_ble_eq_true rfl) ?_
  intro p e s m below meth c A ls H C hP hD hA hS hl
  obtain ⟨hx, hb, hr, hts, hown, hlocks, hml, hin, hKN⟩ := id C
  have hK := hKN.1
  have hN := hKN.2
  have F : CallFix p m c cX11_valve 3 s _ wsX11_valve yX11_valve.cls := ⟨hx, hb, hml, hown, hts⟩
  have hl : lv_has ls 3 [(0, .ref h0), (1, .int cy), (2, .int v)] := hl
  refine lv_aload_n hx hb dX11_valve_0 rfl (lv_at hl 0 rfl) ?_
  refine va_get (D := g.1) (ci := 11) (v := .ref pl) (C := RX11) (T := TX11) (N := 15) hx hb hts hc_X11_valve_X11 hown hK hP 0 rfl rfl 0 (by decide) (hts (.fieldLink RX11 12 "OilPush" "plant" "LOilPush$Plant;") (List.mem_of_getElem? (i := 1) rfl)) (fun _ h => h) rfl dX11_valve_1 ?_
  refine lv_iload_n hx hb dX11_valve_4 rfl (lv_at hl 1 rfl) ?_
  refine kQ (rnV (As := [.int cy]) (rest := []) (Cn := RX4) C (p_at l g pl gv lim ca cnt la fc cy) 1 gX11_valve_X4_at rfl (by decide +kernel) ⟨(Nat.le_of_ble_eq_true rfl), (Nat.le_of_ble_eq_true rfl)⟩ hP (k := 1) (ci := 4) rfl rfl rfl rfl hl.1 rfl (Nat.le_of_ble_eq_true rfl) dX11_valve_5 ⟨(Nat.le_of_ble_eq_true rfl), (Nat.le_of_ble_eq_true rfl)⟩) (spM0 [false, true, true, false, false] hP hD rfl) hA hS (fun r1 u2 H locs hw hP hD hS => ?_)
  have f3 := hw
  replace hP : va_P g.1 vwCl [(h0, .inr (11, [.ref pl, .ref sa, .ref ea, .ref oa, .ref tsa, .ref usa, .ref vea, .ref lka, .ref ra, .ref sha, .ref tra, .int lf, .int std, .int tkd, .int tck])), (pl, .inr (4, [.int gv, .int lim, .ref ca, .int cnt, .ref la])), (ca, .inl (g.2 3, 6, .inr (.inr (.inr (.inr fc))))), (sa, .inr (7, [.ref so, .ref sv, .ref sb, .ref ss, .int wt])), (sv, .inl (g.2 0, 6, .inl fv))] H := hP
  replace hD : va_D A [(h0, .inr (11, [.ref pl, .ref sa, .ref ea, .ref oa, .ref tsa, .ref usa, .ref vea, .ref lka, .ref ra, .ref sha, .ref tra, .int lf, .int std, .int tkd, .int tck])), (pl, .inr (4, [.int gv, .int lim, .ref ca, .int cnt, .ref la])), (ca, .inl (g.2 3, 6, .inr (.inr (.inr (.inr fc))))), (sa, .inr (7, [.ref so, .ref sv, .ref sb, .ref ss, .int wt])), (sv, .inl (g.2 0, 6, .inl fv))] := hD
  rcases r1 with _ | yb
  · refine nx_v (v := .null) rfl ?_
    refine lv_ifnonnullN hx hb dX11_valve_8 ?_
    refine lv_iconst (v := -1) hx hb dX11_valve_11 (by decide) ?_
    exact retI C hS fv trivial hP hD (Nat.le_of_ble_eq_true rfl) (Nat.le_of_ble_eq_true rfl) dX11_valve_12
  refine nx_v (v := .ref yb) rfl ?_
  refine lv_ifnonnull (tgt := 13) hx hb dX11_valve_8 (by decide) ?_
  refine lv_iload_n hx hb dX11_valve_13 rfl (lv_at hl 2 rfl) ?_
  refine lv_iconst (v := 0) hx hb dX11_valve_14 (by decide) ?_
  refine lv_iconst (v := 2) hx hb dX11_valve_15 (by decide) ?_
  refine pureIS (As := [.int v, .int 0, .int 2]) (rest := []) F (c_within l v 0 2) 3 gX11_valve_X11_within rfl (by decide +kernel) rfl rfl ⟨(Nat.le_of_ble_eq_true rfl), (Nat.le_of_ble_eq_true rfl)⟩ (Nat.le_of_ble_eq_true rfl) (Nat.le_of_ble_eq_true rfl) rfl hl.1 rfl (Nat.le_of_ble_eq_true rfl) dX11_valve_16 ?_
  refine lv_if_eq (tgt := 37) hx hb dX11_valve_19 (by decide) (fun c4 => ?_) (fun c4 => ?_)
  · refine lv_bipush (v := -2) hx hb dX11_valve_37 (by decide) ?_
    exact retI C hS fv trivial hP hD (Nat.le_of_ble_eq_true rfl) (Nat.le_of_ble_eq_true rfl) dX11_valve_39
  refine lv_aload_n hx hb dX11_valve_22 rfl (lv_at hl 0 rfl) ?_
  refine va_get (D := g.1) (ci := 11) (v := .ref sa) (C := RX11) (T := TX11) (N := 15) hx hb hts hc_X11_valve_X11 hown hK hP 0 rfl rfl 1 (by decide) (hts (.fieldLink RX11 21 "OilPush" "now" "LOilPush$State;") (List.mem_of_getElem? (i := 2) rfl)) (fun _ h => h) rfl dX11_valve_23 ?_
  refine va_get (D := g.1) (ci := 7) (v := .ref sv) (C := RX7) (T := TX7) (N := 5) hx hb hts hc_X11_valve_X7 hown hK hP 3 rfl rfl 1 (by decide) (hts (.fieldLink RX11 142 "OilPush$State" "valve" "[I") (List.mem_of_getElem? (i := 3) rfl)) (fun _ h => h) rfl dX11_valve_26 ?_
  refine lv_iload_n hx hb dX11_valve_29 rfl (lv_at hl 1 rfl) ?_
  refine lv_iload_n hx hb dX11_valve_30 rfl (lv_at hl 2 rfl) ?_
  refine kI (rnS (As := [.ref sv, .int cy, .int v]) (rest := []) C (x_swap l g sv fv cy v) 3 gX11_valve_X11_swap rfl (by decide +kernel) ⟨(Nat.le_of_ble_eq_true rfl), (Nat.le_of_ble_eq_true rfl)⟩ rfl hl.1 rfl (Nat.le_of_ble_eq_true rfl) dX11_valve_31 ⟨(Nat.le_of_ble_eq_true rfl), (Nat.le_of_ble_eq_true rfl)⟩) (spM0 [false, false, false, false, true] hP hD rfl) hA hS (fun r5 u6 H locs hw hP hD hS => ?_)
  have hre := hw
  replace hP : va_P g.1 vwCl [(h0, .inr (11, [.ref pl, .ref sa, .ref ea, .ref oa, .ref tsa, .ref usa, .ref vea, .ref lka, .ref ra, .ref sha, .ref tra, .int lf, .int std, .int tkd, .int tck])), (pl, .inr (4, [.int gv, .int lim, .ref ca, .int cnt, .ref la])), (ca, .inl (g.2 3, 6, .inr (.inr (.inr (.inr fc))))), (sa, .inr (7, [.ref so, .ref sv, .ref sb, .ref ss, .int wt])), (sv, .inl (g.2 0, 6, .inl (r_c_set 6 fv cy v)))] H := hP
  replace hD : va_D A [(h0, .inr (11, [.ref pl, .ref sa, .ref ea, .ref oa, .ref tsa, .ref usa, .ref vea, .ref lka, .ref ra, .ref sha, .ref tra, .int lf, .int std, .int tkd, .int tck])), (pl, .inr (4, [.int gv, .int lim, .ref ca, .int cnt, .ref la])), (ca, .inl (g.2 3, 6, .inr (.inr (.inr (.inr fc))))), (sa, .inr (7, [.ref so, .ref sv, .ref sb, .ref ss, .int wt])), (sv, .inl (g.2 0, 6, .inl (r_c_set 6 fv cy v)))] := hD
  refine nx_i (v := (r_c_get 6 fv cy)) hre ?_
  refine lv_goto (tgt := 39) hx hb dX11_valve_34 (by decide) ?_
  exact retI C hS (r_c_set 6 fv cy v) trivial hP hD (Nat.le_of_ble_eq_true rfl) (Nat.le_of_ble_eq_true rfl) dX11_valve_39
theorem hc_X11_burst_X11 : ∀ w ∈ wsX110, w ∈ wsX11_burst := fun w h => List.mem_cons_of_mem _ (List.mem_append_left _ (List.mem_append_left _ (List.mem_append_right _ h)))
theorem hc_X11_burst_X7 : ∀ w ∈ wsX70, w ∈ wsX11_burst := fun w h => List.mem_cons_of_mem _ (List.mem_append_left _ (List.mem_append_right _ h))
set_option maxRecDepth 100000 in
set_option maxHeartbeats 4000000 in
theorem x_burst (l : Launch) (g : Gt) (h0 : Nat) (sha : Nat) (tra : Nat) (lf : Int32) (std : Int32) (tkd : Int32) (tck : Int32) (sa : Nat) (ea : Nat) (oa : Nat) (tsa : Nat) (usa : Nat) (vea : Nat) (lka : Nat) (ra : Nat) (pl : Nat) (gv : Int32) (lim : Int32) (ca : Nat) (cnt : Int32) (la : Nat) (fc : Nat → Option Nat) (so : Nat) (sv : Nat) (sb : Nat) (ss : Nat) (wt : Int32) (fb : Nat → Int32) (cy : Int32) (v : Int32) (hfc : FCs cnt fc) : Ctr l g yX11_burst wsX11_burst ({ frames := 2, cells := 0, slots := 0, locals := 45 } : Room) [.ref h0, .int cy, .int v] [(h0, .inr (11, [.ref pl, .ref sa, .ref ea, .ref oa, .ref tsa, .ref usa, .ref vea, .ref lka, .ref ra, .ref sha, .ref tra, .int lf, .int std, .int tkd, .int tck])), (pl, .inr (4, [.int gv, .int lim, .ref ca, .int cnt, .ref la])), (ca, .inl (g.2 3, 6, .inr (.inr (.inr (.inr fc))))), (sa, .inr (7, [.ref so, .ref sv, .ref sb, .ref ss, .int wt])), (sb, .inl (g.2 0, 6, .inl fb))] (fun A => QI g A (fun r (u : (Nat → Int32)) => (r = sb_r cnt fb cy v) ∧ (u = sb_f cnt fb cy v)) (fun (u : (Nat → Int32)) => [(h0, .inr (11, [.ref pl, .ref sa, .ref ea, .ref oa, .ref tsa, .ref usa, .ref vea, .ref lka, .ref ra, .ref sha, .ref tra, .int lf, .int std, .int tkd, .int tck])), (pl, .inr (4, [.int gv, .int lim, .ref ca, .int cnt, .ref la])), (ca, .inl (g.2 3, 6, .inr (.inr (.inr (.inr fc))))), (sa, .inr (7, [.ref so, .ref sv, .ref sb, .ref ss, .int wt])), (sb, .inl (g.2 0, 6, .inl u))])) := by
  refine Ctr.of (cc := cX11_burst) (maxL := 4) (ret := (some .int)) (by decide) rfl (Nat.le_of_ble_eq_true rfl) ?_
  intro p e s m below meth c A ls H C hP hD hA hS hl
  obtain ⟨hx, hb, hr, hts, hown, hlocks, hml, hin, hKN⟩ := id C
  have hK := hKN.1
  have hN := hKN.2
  have F : CallFix p m c cX11_burst 4 s _ wsX11_burst yX11_burst.cls := ⟨hx, hb, hml, hown, hts⟩
  have hl : lv_has ls 4 [(0, .ref h0), (1, .int cy), (2, .int v)] := hl
  refine lv_aload_n hx hb dX11_burst_0 rfl (lv_at hl 0 rfl) ?_
  refine va_get (D := g.1) (ci := 11) (v := .ref pl) (C := RX11) (T := TX11) (N := 15) hx hb hts hc_X11_burst_X11 hown hK hP 0 rfl rfl 0 (by decide) (hts (.fieldLink RX11 12 "OilPush" "plant" "LOilPush$Plant;") (List.mem_of_getElem? (i := 1) rfl)) (fun _ h => h) rfl dX11_burst_1 ?_
  refine lv_iload_n hx hb dX11_burst_4 rfl (lv_at hl 1 rfl) ?_
  refine kQ (rnV (As := [.int cy]) (rest := []) (Cn := RX4) C (p_at l g pl gv lim ca cnt la fc cy) 1 gX11_burst_X4_at rfl (by decide +kernel) ⟨(Nat.le_of_ble_eq_true rfl), (Nat.le_of_ble_eq_true rfl)⟩ hP (k := 1) (ci := 4) rfl rfl rfl rfl hl.1 rfl (Nat.le_of_ble_eq_true rfl) dX11_burst_5 ⟨(Nat.le_of_ble_eq_true rfl), (Nat.le_of_ble_eq_true rfl)⟩) (spM0 [false, true, true, false, false] hP hD rfl) hA hS (fun r1 u2 H locs hw hP hD hS => ?_)
  have f3 := hw
  replace hP : va_P g.1 vwCl [(h0, .inr (11, [.ref pl, .ref sa, .ref ea, .ref oa, .ref tsa, .ref usa, .ref vea, .ref lka, .ref ra, .ref sha, .ref tra, .int lf, .int std, .int tkd, .int tck])), (pl, .inr (4, [.int gv, .int lim, .ref ca, .int cnt, .ref la])), (ca, .inl (g.2 3, 6, .inr (.inr (.inr (.inr fc))))), (sa, .inr (7, [.ref so, .ref sv, .ref sb, .ref ss, .int wt])), (sb, .inl (g.2 0, 6, .inl fb))] H := hP
  replace hD : va_D A [(h0, .inr (11, [.ref pl, .ref sa, .ref ea, .ref oa, .ref tsa, .ref usa, .ref vea, .ref lka, .ref ra, .ref sha, .ref tra, .int lf, .int std, .int tkd, .int tck])), (pl, .inr (4, [.int gv, .int lim, .ref ca, .int cnt, .ref la])), (ca, .inl (g.2 3, 6, .inr (.inr (.inr (.inr fc))))), (sa, .inr (7, [.ref so, .ref sv, .ref sb, .ref ss, .int wt])), (sb, .inl (g.2 0, 6, .inl fb))] := hD
  rcases r1 with _ | yb
  · refine nx_v (v := .null) rfl ?_
    refine lv_ifnonnullN hx hb dX11_burst_8 ?_
    refine lv_iconst (v := -1) hx hb dX11_burst_11 (by decide) ?_
    exact retI C hS fb ⟨(by simp only [sb_r, sb_f, if_pos hfc, if_pos f3, if_pos (hfc _ f3)]), (by simp only [sb_r, sb_f, if_pos hfc, if_pos f3, if_pos (hfc _ f3)])⟩ hP hD (Nat.le_of_ble_eq_true rfl) (Nat.le_of_ble_eq_true rfl) dX11_burst_12
  refine nx_v (v := .ref yb) rfl ?_
  refine lv_ifnonnull (tgt := 13) hx hb dX11_burst_8 (by decide) ?_
  refine lv_iload_n hx hb dX11_burst_13 rfl (lv_at hl 2 rfl) ?_
  refine lv_if_eq (tgt := 21) hx hb dX11_burst_14 (by decide) (fun c4 => ?_) (fun c4 => ?_)
  · refine lv_iconst (v := 0) hx hb dX11_burst_21 (by decide) ?_
    refine lv_istore_n (lv' := [(3, .int 0), (0, .ref h0), (1, .int cy), (2, .int v)]) hx hb dX11_burst_22 rfl hl (by decide) rfl (fun ls hl => ?_)
    refine lv_aload_n hx hb dX11_burst_23 rfl (lv_at hl 1 rfl) ?_
    refine va_get (D := g.1) (ci := 11) (v := .ref sa) (C := RX11) (T := TX11) (N := 15) hx hb hts hc_X11_burst_X11 hown hK hP 0 rfl rfl 1 (by decide) (hts (.fieldLink RX11 21 "OilPush" "now" "LOilPush$State;") (List.mem_of_getElem? (i := 2) rfl)) (fun _ h => h) rfl dX11_burst_24 ?_
    refine va_get (D := g.1) (ci := 7) (v := .ref sb) (C := RX7) (T := TX7) (N := 5) hx hb hts hc_X11_burst_X7 hown hK hP 3 rfl rfl 2 (by decide) (hts (.fieldLink RX11 152 "OilPush$State" "burst" "[I") (List.mem_of_getElem? (i := 3) rfl)) (fun _ h => h) rfl dX11_burst_27 ?_
    refine lv_iload_n hx hb dX11_burst_30 rfl (lv_at hl 2 rfl) ?_
    refine lv_iload_n hx hb dX11_burst_31 rfl (lv_at hl 0 rfl) ?_
    refine kI (rnS (As := [.ref sb, .int cy, .int 0]) (rest := []) C (x_swap l g sb fb cy 0) 3 gX11_burst_X11_swap rfl (by decide +kernel) ⟨(Nat.le_of_ble_eq_true rfl), (Nat.le_of_ble_eq_true rfl)⟩ rfl hl.1 rfl (Nat.le_of_ble_eq_true rfl) dX11_burst_32 ⟨(Nat.le_of_ble_eq_true rfl), (Nat.le_of_ble_eq_true rfl)⟩) (spM0 [false, false, false, false, true] hP hD rfl) hA hS (fun r5 u6 H locs hw hP hD hS => ?_)
    have hre := hw
    replace hP : va_P g.1 vwCl [(h0, .inr (11, [.ref pl, .ref sa, .ref ea, .ref oa, .ref tsa, .ref usa, .ref vea, .ref lka, .ref ra, .ref sha, .ref tra, .int lf, .int std, .int tkd, .int tck])), (pl, .inr (4, [.int gv, .int lim, .ref ca, .int cnt, .ref la])), (ca, .inl (g.2 3, 6, .inr (.inr (.inr (.inr fc))))), (sa, .inr (7, [.ref so, .ref sv, .ref sb, .ref ss, .int wt])), (sb, .inl (g.2 0, 6, .inl (r_c_set 6 fb cy 0)))] H := hP
    replace hD : va_D A [(h0, .inr (11, [.ref pl, .ref sa, .ref ea, .ref oa, .ref tsa, .ref usa, .ref vea, .ref lka, .ref ra, .ref sha, .ref tra, .int lf, .int std, .int tkd, .int tck])), (pl, .inr (4, [.int gv, .int lim, .ref ca, .int cnt, .ref la])), (ca, .inl (g.2 3, 6, .inr (.inr (.inr (.inr fc))))), (sa, .inr (7, [.ref so, .ref sv, .ref sb, .ref ss, .int wt])), (sb, .inl (g.2 0, 6, .inl (r_c_set 6 fb cy 0)))] := hD
    refine nx_i (v := (r_c_get 6 fb cy)) hre ?_
    refine lv_iload_n hx hb dX11_burst_35 rfl (lv_at hl 0 rfl) ?_
    refine lv_icmp_ne (tgt := 43) hx hb dX11_burst_36 (by decide) (fun c7 => ?_) (fun c7 => ?_)
    · refine lv_iconst (v := 1) hx hb dX11_burst_43 (by decide) ?_
      exact retI C hS (r_c_set 6 fb cy 0) ⟨(by simp only [sb_r, sb_f, if_pos hfc, if_pos f3, if_neg (pa_some f3), if_pos c4, if_neg c7]), (by simp only [sb_r, sb_f, if_pos hfc, if_pos f3, if_neg (pa_some f3), if_pos c4, if_neg c7])⟩ hP hD (Nat.le_of_ble_eq_true rfl) (Nat.le_of_ble_eq_true rfl) dX11_burst_44
    refine lv_iconst (v := 0) hx hb dX11_burst_39 (by decide) ?_
    refine lv_goto (tgt := 44) hx hb dX11_burst_40 (by decide) ?_
    exact retI C hS (r_c_set 6 fb cy 0) ⟨(by simp only [sb_r, sb_f, if_pos hfc, if_pos f3, if_neg (pa_some f3), if_pos c4, if_pos c7]), (by simp only [sb_r, sb_f, if_pos hfc, if_pos f3, if_neg (pa_some f3), if_pos c4, if_pos c7])⟩ hP hD (Nat.le_of_ble_eq_true rfl) (Nat.le_of_ble_eq_true rfl) dX11_burst_44
  refine lv_iconst (v := 1) hx hb dX11_burst_17 (by decide) ?_
  refine lv_goto (tgt := 22) hx hb dX11_burst_18 (by decide) ?_
  refine lv_istore_n (lv' := [(3, .int 1), (0, .ref h0), (1, .int cy), (2, .int v)]) hx hb dX11_burst_22 rfl hl (by decide) rfl (fun ls hl => ?_)
  refine lv_aload_n hx hb dX11_burst_23 rfl (lv_at hl 1 rfl) ?_
  refine va_get (D := g.1) (ci := 11) (v := .ref sa) (C := RX11) (T := TX11) (N := 15) hx hb hts hc_X11_burst_X11 hown hK hP 0 rfl rfl 1 (by decide) (hts (.fieldLink RX11 21 "OilPush" "now" "LOilPush$State;") (List.mem_of_getElem? (i := 2) rfl)) (fun _ h => h) rfl dX11_burst_24 ?_
  refine va_get (D := g.1) (ci := 7) (v := .ref sb) (C := RX7) (T := TX7) (N := 5) hx hb hts hc_X11_burst_X7 hown hK hP 3 rfl rfl 2 (by decide) (hts (.fieldLink RX11 152 "OilPush$State" "burst" "[I") (List.mem_of_getElem? (i := 3) rfl)) (fun _ h => h) rfl dX11_burst_27 ?_
  refine lv_iload_n hx hb dX11_burst_30 rfl (lv_at hl 2 rfl) ?_
  refine lv_iload_n hx hb dX11_burst_31 rfl (lv_at hl 0 rfl) ?_
  refine kI (rnS (As := [.ref sb, .int cy, .int 1]) (rest := []) C (x_swap l g sb fb cy 1) 3 gX11_burst_X11_swap rfl (by decide +kernel) ⟨(Nat.le_of_ble_eq_true rfl), (Nat.le_of_ble_eq_true rfl)⟩ rfl hl.1 rfl (Nat.le_of_ble_eq_true rfl) dX11_burst_32 ⟨(Nat.le_of_ble_eq_true rfl), (Nat.le_of_ble_eq_true rfl)⟩) (spM0 [false, false, false, false, true] hP hD rfl) hA hS (fun r8 u9 H locs hw hP hD hS => ?_)
  have hre := hw
  replace hP : va_P g.1 vwCl [(h0, .inr (11, [.ref pl, .ref sa, .ref ea, .ref oa, .ref tsa, .ref usa, .ref vea, .ref lka, .ref ra, .ref sha, .ref tra, .int lf, .int std, .int tkd, .int tck])), (pl, .inr (4, [.int gv, .int lim, .ref ca, .int cnt, .ref la])), (ca, .inl (g.2 3, 6, .inr (.inr (.inr (.inr fc))))), (sa, .inr (7, [.ref so, .ref sv, .ref sb, .ref ss, .int wt])), (sb, .inl (g.2 0, 6, .inl (r_c_set 6 fb cy 1)))] H := hP
  replace hD : va_D A [(h0, .inr (11, [.ref pl, .ref sa, .ref ea, .ref oa, .ref tsa, .ref usa, .ref vea, .ref lka, .ref ra, .ref sha, .ref tra, .int lf, .int std, .int tkd, .int tck])), (pl, .inr (4, [.int gv, .int lim, .ref ca, .int cnt, .ref la])), (ca, .inl (g.2 3, 6, .inr (.inr (.inr (.inr fc))))), (sa, .inr (7, [.ref so, .ref sv, .ref sb, .ref ss, .int wt])), (sb, .inl (g.2 0, 6, .inl (r_c_set 6 fb cy 1)))] := hD
  refine nx_i (v := (r_c_get 6 fb cy)) hre ?_
  refine lv_iload_n hx hb dX11_burst_35 rfl (lv_at hl 0 rfl) ?_
  refine lv_icmp_ne (tgt := 43) hx hb dX11_burst_36 (by decide) (fun c10 => ?_) (fun c10 => ?_)
  · refine lv_iconst (v := 1) hx hb dX11_burst_43 (by decide) ?_
    exact retI C hS (r_c_set 6 fb cy 1) ⟨(by simp only [sb_r, sb_f, if_pos hfc, if_pos f3, if_neg (pa_some f3), if_neg c4, if_neg c10]), (by simp only [sb_r, sb_f, if_pos hfc, if_pos f3, if_neg (pa_some f3), if_neg c4, if_neg c10])⟩ hP hD (Nat.le_of_ble_eq_true rfl) (Nat.le_of_ble_eq_true rfl) dX11_burst_44
  refine lv_iconst (v := 0) hx hb dX11_burst_39 (by decide) ?_
  refine lv_goto (tgt := 44) hx hb dX11_burst_40 (by decide) ?_
  exact retI C hS (r_c_set 6 fb cy 1) ⟨(by simp only [sb_r, sb_f, if_pos hfc, if_pos f3, if_neg (pa_some f3), if_neg c4, if_pos c10]), (by simp only [sb_r, sb_f, if_pos hfc, if_pos f3, if_neg (pa_some f3), if_neg c4, if_pos c10])⟩ hP hD (Nat.le_of_ble_eq_true rfl) (Nat.le_of_ble_eq_true rfl) dX11_burst_44
theorem hc_X11_mover_X1 : ∀ w ∈ wsX10, w ∈ wsX11_mover := fun w h => List.mem_cons_of_mem _ (List.mem_append_right _ h)
theorem hc_X11_mover_X11 : ∀ w ∈ wsX110, w ∈ wsX11_mover := fun w h => List.mem_cons_of_mem _ (List.mem_append_left _ (List.mem_append_right _ h))
set_option maxRecDepth 100000 in
set_option maxHeartbeats 4000000 in
theorem x_mover (l : Launch) (g : Gt) (h0 : Nat) (sha : Nat) (tra : Nat) (lf : Int32) (std : Int32) (tkd : Int32) (tck : Int32) (sa : Nat) (ea : Nat) (oa : Nat) (tsa : Nat) (usa : Nat) (vea : Nat) (lka : Nat) (ra : Nat) (pl : Nat) (et : Nat) (el : Nat) (en : Nat) (em : Nat) (ek : Nat) (mov : Int32) (tks : Int32) (prs : Int32) (ovr : Int32) (stk : Int32) (ht : Int64) (wk : Int64) (gn : Int64) (fk : Nat → Int32) (ix : Int32)  : Ctr l g yX11_mover wsX11_mover ({ frames := 1, cells := 0, slots := 0, locals := 22 } : Room) [.ref h0, .int ix] [(h0, .inr (11, [.ref pl, .ref sa, .ref ea, .ref oa, .ref tsa, .ref usa, .ref vea, .ref lka, .ref ra, .ref sha, .ref tra, .int lf, .int std, .int tkd, .int tck])), (ea, .inr (1, [.ref et, .ref el, .int mov, .ref en, .ref em, .ref ek, .int tks, .int prs, .int ovr, .int stk, .long ht, .long wk, .long gn])), (ek, .inl (g.2 0, 6, .inl fk))] (fun A => QI g A (fun r (u : Unit) => True) (fun (u : Unit) => [(h0, .inr (11, [.ref pl, .ref sa, .ref ea, .ref oa, .ref tsa, .ref usa, .ref vea, .ref lka, .ref ra, .ref sha, .ref tra, .int lf, .int std, .int tkd, .int tck])), (ea, .inr (1, [.ref et, .ref el, .int mov, .ref en, .ref em, .ref ek, .int tks, .int prs, .int ovr, .int stk, .long ht, .long wk, .long gn])), (ek, .inl (g.2 0, 6, .inl fk))])) := by
  refine Ctr.of (cc := cX11_mover) (maxL := 2) (ret := (some .int)) (by decide) rfl (Nat.le_of_ble_eq_true rfl) ?_
  intro p e s m below meth c A ls H C hP hD hA hS hl
  obtain ⟨hx, hb, hr, hts, hown, hlocks, hml, hin, hKN⟩ := id C
  have hK := hKN.1
  have hN := hKN.2
  have F : CallFix p m c cX11_mover 2 s _ wsX11_mover yX11_mover.cls := ⟨hx, hb, hml, hown, hts⟩
  have hl : lv_has ls 2 [(0, .ref h0), (1, .int ix)] := hl
  refine lv_iload_n hx hb dX11_mover_0 rfl (lv_at hl 1 rfl) ?_
  refine lv_iconst (v := 0) hx hb dX11_mover_1 (by decide) ?_
  refine lv_aload_n hx hb dX11_mover_2 rfl (lv_at hl 0 rfl) ?_
  refine va_get (D := g.1) (ci := 11) (v := .ref ea) (C := RX11) (T := TX11) (N := 15) hx hb hts hc_X11_mover_X11 hown hK hP 0 rfl rfl 2 (by decide) (hts (.fieldLink RX11 28 "OilPush" "engine" "LOilPush$Engine;") (List.mem_of_getElem? (i := 1) rfl)) (fun _ h => h) rfl dX11_mover_3 ?_
  refine va_get (D := g.1) (ci := 1) (v := .int tks) (C := RX1) (T := TX1) (N := 13) hx hb hts hc_X11_mover_X1 hown hK hP 1 rfl rfl 6 (by decide) (hts (.fieldLink RX11 221 "OilPush$Engine" "takers" "I") (List.mem_of_getElem? (i := 2) rfl)) (fun _ h => h) rfl dX11_mover_6 ?_
  refine lv_iconst (v := 1) hx hb dX11_mover_9 (by decide) ?_
  refine lv_isub hx hb dX11_mover_10 ?_
  refine pureIS (As := [.int ix, .int 0, .int (tks - 1)]) (rest := []) F (c_within l ix 0 (tks - 1)) 3 gX11_mover_X11_within rfl (by decide +kernel) rfl rfl ⟨(Nat.le_of_ble_eq_true rfl), (Nat.le_of_ble_eq_true rfl)⟩ (Nat.le_of_ble_eq_true rfl) (Nat.le_of_ble_eq_true rfl) rfl hl.1 rfl (Nat.le_of_ble_eq_true rfl) dX11_mover_11 ?_
  refine lv_if_eq (tgt := 31) hx hb dX11_mover_14 (by decide) (fun c1 => ?_) (fun c1 => ?_)
  · refine lv_iconst (v := -1) hx hb dX11_mover_31 (by decide) ?_
    exact retI C hS () trivial hP hD (Nat.le_of_ble_eq_true rfl) (Nat.le_of_ble_eq_true rfl) dX11_mover_32
  refine lv_aload_n hx hb dX11_mover_17 rfl (lv_at hl 0 rfl) ?_
  refine va_get (D := g.1) (ci := 11) (v := .ref ea) (C := RX11) (T := TX11) (N := 15) hx hb hts hc_X11_mover_X11 hown hK hP 0 rfl rfl 2 (by decide) (hts (.fieldLink RX11 28 "OilPush" "engine" "LOilPush$Engine;") (List.mem_of_getElem? (i := 1) rfl)) (fun _ h => h) rfl dX11_mover_18 ?_
  refine va_get (D := g.1) (ci := 1) (v := .ref ek) (C := RX1) (T := TX1) (N := 13) hx hb hts hc_X11_mover_X1 hown hK hP 1 rfl rfl 5 (by decide) (hts (.fieldLink RX11 224 "OilPush$Engine" "taker" "[I") (List.mem_of_getElem? (i := 3) rfl)) (fun _ h => h) rfl dX11_mover_21 ?_
  refine lv_iload_n hx hb dX11_mover_24 rfl (lv_at hl 1 rfl) ?_
  refine kI (rnS (As := [.ref ek, .int ix]) (rest := []) C (c_get l g ek 6 fk ix (by decide)) 2 gX11_mover_X11_get rfl (by decide +kernel) ⟨(Nat.le_of_ble_eq_true rfl), (Nat.le_of_ble_eq_true rfl)⟩ rfl hl.1 rfl (Nat.le_of_ble_eq_true rfl) dX11_mover_25 ⟨(Nat.le_of_ble_eq_true rfl), (Nat.le_of_ble_eq_true rfl)⟩) (spM0 [false, false, true] hP hD rfl) hA hS (fun r2 u3 H locs hw hP hD hS => ?_)
  have hre := hw
  replace hP : va_P g.1 vwCl [(h0, .inr (11, [.ref pl, .ref sa, .ref ea, .ref oa, .ref tsa, .ref usa, .ref vea, .ref lka, .ref ra, .ref sha, .ref tra, .int lf, .int std, .int tkd, .int tck])), (ea, .inr (1, [.ref et, .ref el, .int mov, .ref en, .ref em, .ref ek, .int tks, .int prs, .int ovr, .int stk, .long ht, .long wk, .long gn])), (ek, .inl (g.2 0, 6, .inl fk))] H := hP
  replace hD : va_D A [(h0, .inr (11, [.ref pl, .ref sa, .ref ea, .ref oa, .ref tsa, .ref usa, .ref vea, .ref lka, .ref ra, .ref sha, .ref tra, .int lf, .int std, .int tkd, .int tck])), (ea, .inr (1, [.ref et, .ref el, .int mov, .ref en, .ref em, .ref ek, .int tks, .int prs, .int ovr, .int stk, .long ht, .long wk, .long gn])), (ek, .inl (g.2 0, 6, .inl fk))] := hD
  refine nx_i (v := (r_c_get 6 fk ix)) hre ?_
  refine lv_goto (tgt := 32) hx hb dX11_mover_28 (by decide) ?_
  exact retI C hS () trivial hP hD (Nat.le_of_ble_eq_true rfl) (Nat.le_of_ble_eq_true rfl) dX11_mover_32
theorem hc_X11_sum_X1 : ∀ w ∈ wsX10, w ∈ wsX11_sum := fun w h => List.mem_cons_of_mem _ (List.mem_append_left _ (List.mem_append_left _ (List.mem_append_right _ h)))
theorem hc_X11_sum_X11 : ∀ w ∈ wsX110, w ∈ wsX11_sum := fun w h => List.mem_cons_of_mem _ (List.mem_append_left _ (List.mem_append_left _ (List.mem_append_left _ (List.mem_append_right _ h))))
theorem hc_X11_sum_X7 : ∀ w ∈ wsX70, w ∈ wsX11_sum := fun w h => List.mem_cons_of_mem _ (List.mem_append_left _ (List.mem_append_right _ h))
theorem hc_X11_sum_X8 : ∀ w ∈ wsX80, w ∈ wsX11_sum := fun w h => List.mem_cons_of_mem _ (List.mem_append_right _ h)
set_option maxRecDepth 100000 in
set_option maxHeartbeats 4000000 in
theorem x_sum (l : Launch) (g : Gt) (h0 : Nat) (sha : Nat) (tra : Nat) (lf : Int32) (std : Int32) (tkd : Int32) (tck : Int32) (sa : Nat) (ea : Nat) (oa : Nat) (tsa : Nat) (usa : Nat) (vea : Nat) (lka : Nat) (ra : Nat) (pl : Nat) (so : Nat) (sv : Nat) (sb : Nat) (ss : Nat) (wt : Int32) (cap : Int32) (fst : Int32) (stf : Int32) (sol : Int32) (et : Nat) (el : Nat) (en : Nat) (em : Nat) (ek : Nat) (mov : Int32) (tks : Int32) (prs : Int32) (ovr : Int32) (stk : Int32) (ht : Int64) (wk : Int64) (gn : Int64) (what : Int32)  : Ctr l g yX11_sum wsX11_sum ({ frames := 1, cells := 0, slots := 0, locals := 20 } : Room) [.ref h0, .int what] [(h0, .inr (11, [.ref pl, .ref sa, .ref ea, .ref oa, .ref tsa, .ref usa, .ref vea, .ref lka, .ref ra, .ref sha, .ref tra, .int lf, .int std, .int tkd, .int tck])), (ea, .inr (1, [.ref et, .ref el, .int mov, .ref en, .ref em, .ref ek, .int tks, .int prs, .int ovr, .int stk, .long ht, .long wk, .long gn])), (sa, .inr (7, [.ref so, .ref sv, .ref sb, .ref ss, .int wt])), (ss, .inr (8, [.int cap, .int fst, .int stf, .int sol]))] (fun A => QL g A (fun r (u : Unit) => True) (fun (u : Unit) => [(h0, .inr (11, [.ref pl, .ref sa, .ref ea, .ref oa, .ref tsa, .ref usa, .ref vea, .ref lka, .ref ra, .ref sha, .ref tra, .int lf, .int std, .int tkd, .int tck])), (ea, .inr (1, [.ref et, .ref el, .int mov, .ref en, .ref em, .ref ek, .int tks, .int prs, .int ovr, .int stk, .long ht, .long wk, .long gn])), (sa, .inr (7, [.ref so, .ref sv, .ref sb, .ref ss, .int wt])), (ss, .inr (8, [.int cap, .int fst, .int stf, .int sol]))])) := by
  refine Ctr.of (cc := cX11_sum) (maxL := 2) (ret := (some .long)) (by decide) rfl (Nat.le_of_ble_eq_true rfl) ?_
  intro p e s m below meth c A ls H C hP hD hA hS hl
  obtain ⟨hx, hb, hr, hts, hown, hlocks, hml, hin, hKN⟩ := id C
  have hK := hKN.1
  have hN := hKN.2
  have F : CallFix p m c cX11_sum 2 s _ wsX11_sum yX11_sum.cls := ⟨hx, hb, hml, hown, hts⟩
  have hl : lv_has ls 2 [(0, .ref h0), (1, .int what)] := hl
  refine lv_iload_n hx hb dX11_sum_0 rfl (lv_at hl 1 rfl) ?_
  by_cases w1 : what = 0
  · refine lv_tableIn (tgt := 36) (off := 35) hx hb dX11_sum_1 (by rw [w1]; decide) (by rw [w1]; decide) (by rw [w1]; rfl) (by decide) ?_
    refine lv_aload_n hx hb dX11_sum_36 rfl (lv_at hl 0 rfl) ?_
    refine va_get (D := g.1) (ci := 11) (v := .ref ea) (C := RX11) (T := TX11) (N := 15) hx hb hts hc_X11_sum_X11 hown hK hP 0 rfl rfl 2 (by decide) (hts (.fieldLink RX11 28 "OilPush" "engine" "LOilPush$Engine;") (List.mem_of_getElem? (i := 1) rfl)) (fun _ h => h) rfl dX11_sum_37 ?_
    refine va_get (D := g.1) (ci := 1) (v := .long ht) (C := RX1) (T := TX1) (N := 13) hx hb hts hc_X11_sum_X1 hown hK hP 1 rfl rfl 10 (by decide) (hts (.fieldLink RX11 227 "OilPush$Engine" "heat" "J") (List.mem_of_getElem? (i := 2) rfl)) (fun _ h => h) rfl dX11_sum_40 ?_
    exact retL C hS () trivial hP hD (Nat.le_of_ble_eq_true rfl) (Nat.le_of_ble_eq_true rfl) dX11_sum_43
  by_cases w2 : what = 1
  · refine lv_tableIn (tgt := 44) (off := 43) hx hb dX11_sum_1 (by rw [w2]; decide) (by rw [w2]; decide) (by rw [w2]; rfl) (by decide) ?_
    refine lv_aload_n hx hb dX11_sum_44 rfl (lv_at hl 0 rfl) ?_
    refine va_get (D := g.1) (ci := 11) (v := .ref ea) (C := RX11) (T := TX11) (N := 15) hx hb hts hc_X11_sum_X11 hown hK hP 0 rfl rfl 2 (by decide) (hts (.fieldLink RX11 28 "OilPush" "engine" "LOilPush$Engine;") (List.mem_of_getElem? (i := 1) rfl)) (fun _ h => h) rfl dX11_sum_45 ?_
    refine va_get (D := g.1) (ci := 1) (v := .long wk) (C := RX1) (T := TX1) (N := 13) hx hb hts hc_X11_sum_X1 hown hK hP 1 rfl rfl 11 (by decide) (hts (.fieldLink RX11 231 "OilPush$Engine" "work" "J") (List.mem_of_getElem? (i := 3) rfl)) (fun _ h => h) rfl dX11_sum_48 ?_
    exact retL C hS () trivial hP hD (Nat.le_of_ble_eq_true rfl) (Nat.le_of_ble_eq_true rfl) dX11_sum_51
  by_cases w3 : what = 2
  · refine lv_tableIn (tgt := 52) (off := 51) hx hb dX11_sum_1 (by rw [w3]; decide) (by rw [w3]; decide) (by rw [w3]; rfl) (by decide) ?_
    refine lv_aload_n hx hb dX11_sum_52 rfl (lv_at hl 0 rfl) ?_
    refine va_get (D := g.1) (ci := 11) (v := .ref ea) (C := RX11) (T := TX11) (N := 15) hx hb hts hc_X11_sum_X11 hown hK hP 0 rfl rfl 2 (by decide) (hts (.fieldLink RX11 28 "OilPush" "engine" "LOilPush$Engine;") (List.mem_of_getElem? (i := 1) rfl)) (fun _ h => h) rfl dX11_sum_53 ?_
    refine va_get (D := g.1) (ci := 1) (v := .long gn) (C := RX1) (T := TX1) (N := 13) hx hb hts hc_X11_sum_X1 hown hK hP 1 rfl rfl 12 (by decide) (hts (.fieldLink RX11 234 "OilPush$Engine" "given" "J") (List.mem_of_getElem? (i := 4) rfl)) (fun _ h => h) rfl dX11_sum_56 ?_
    exact retL C hS () trivial hP hD (Nat.le_of_ble_eq_true rfl) (Nat.le_of_ble_eq_true rfl) dX11_sum_59
  by_cases w4 : what = 3
  · refine lv_tableIn (tgt := 60) (off := 59) hx hb dX11_sum_1 (by rw [w4]; decide) (by rw [w4]; decide) (by rw [w4]; rfl) (by decide) ?_
    refine lv_aload_n hx hb dX11_sum_60 rfl (lv_at hl 0 rfl) ?_
    refine va_get (D := g.1) (ci := 11) (v := .ref sa) (C := RX11) (T := TX11) (N := 15) hx hb hts hc_X11_sum_X11 hown hK hP 0 rfl rfl 1 (by decide) (hts (.fieldLink RX11 21 "OilPush" "now" "LOilPush$State;") (List.mem_of_getElem? (i := 5) rfl)) (fun _ h => h) rfl dX11_sum_61 ?_
    refine va_get (D := g.1) (ci := 7) (v := .ref ss) (C := RX7) (T := TX7) (N := 5) hx hb hts hc_X11_sum_X7 hown hK hP 2 rfl rfl 3 (by decide) (hts (.fieldLink RX11 155 "OilPush$State" "store" "LOilPush$Store;") (List.mem_of_getElem? (i := 6) rfl)) (fun _ h => h) rfl dX11_sum_64 ?_
    refine va_get (D := g.1) (ci := 8) (v := .int sol) (C := RX8) (T := TX8) (N := 4) hx hb hts hc_X11_sum_X8 hown hK hP 3 rfl rfl 3 (by decide) (hts (.fieldLink RX11 159 "OilPush$Store" "oil" "I") (List.mem_of_getElem? (i := 7) rfl)) (fun _ h => h) rfl dX11_sum_67 ?_
    refine lv_i2l hx hb dX11_sum_70 rfl ?_
    exact retL C hS () trivial hP hD (Nat.le_of_ble_eq_true rfl) (Nat.le_of_ble_eq_true rfl) dX11_sum_71
  by_cases w5 : what = 4
  · refine lv_tableIn (tgt := 72) (off := 71) hx hb dX11_sum_1 (by rw [w5]; decide) (by rw [w5]; decide) (by rw [w5]; rfl) (by decide) ?_
    refine lv_aload_n hx hb dX11_sum_72 rfl (lv_at hl 0 rfl) ?_
    refine va_get (D := g.1) (ci := 11) (v := .ref sa) (C := RX11) (T := TX11) (N := 15) hx hb hts hc_X11_sum_X11 hown hK hP 0 rfl rfl 1 (by decide) (hts (.fieldLink RX11 21 "OilPush" "now" "LOilPush$State;") (List.mem_of_getElem? (i := 5) rfl)) (fun _ h => h) rfl dX11_sum_73 ?_
    refine va_get (D := g.1) (ci := 7) (v := .ref ss) (C := RX7) (T := TX7) (N := 5) hx hb hts hc_X11_sum_X7 hown hK hP 2 rfl rfl 3 (by decide) (hts (.fieldLink RX11 155 "OilPush$State" "store" "LOilPush$Store;") (List.mem_of_getElem? (i := 6) rfl)) (fun _ h => h) rfl dX11_sum_76 ?_
    refine kI (rnV (As := []) (rest := []) (Cn := RX8) C (s_pressure l g ss cap fst stf sol) 0 gX11_sum_X8_pressure rfl (by decide +kernel) ⟨(Nat.le_of_ble_eq_true rfl), (Nat.le_of_ble_eq_true rfl)⟩ hP (k := 3) (ci := 8) rfl rfl rfl rfl hl.1 rfl (Nat.le_of_ble_eq_true rfl) dX11_sum_79 ⟨(Nat.le_of_ble_eq_true rfl), (Nat.le_of_ble_eq_true rfl)⟩) (spM0 [false, false, false, true] hP hD rfl) hA hS (fun r6 u7 H locs hw hP hD hS => ?_)
    replace hP : va_P g.1 vwCl [(h0, .inr (11, [.ref pl, .ref sa, .ref ea, .ref oa, .ref tsa, .ref usa, .ref vea, .ref lka, .ref ra, .ref sha, .ref tra, .int lf, .int std, .int tkd, .int tck])), (ea, .inr (1, [.ref et, .ref el, .int mov, .ref en, .ref em, .ref ek, .int tks, .int prs, .int ovr, .int stk, .long ht, .long wk, .long gn])), (sa, .inr (7, [.ref so, .ref sv, .ref sb, .ref ss, .int wt])), (ss, .inr (8, [.int cap, .int fst, .int stf, .int sol]))] H := hP
    replace hD : va_D A [(h0, .inr (11, [.ref pl, .ref sa, .ref ea, .ref oa, .ref tsa, .ref usa, .ref vea, .ref lka, .ref ra, .ref sha, .ref tra, .int lf, .int std, .int tkd, .int tck])), (ea, .inr (1, [.ref et, .ref el, .int mov, .ref en, .ref em, .ref ek, .int tks, .int prs, .int ovr, .int stk, .long ht, .long wk, .long gn])), (sa, .inr (7, [.ref so, .ref sv, .ref sb, .ref ss, .int wt])), (ss, .inr (8, [.int cap, .int fst, .int stf, .int sol]))] := hD
    refine lv_i2l hx hb dX11_sum_82 rfl ?_
    exact retL C hS () trivial hP hD (Nat.le_of_ble_eq_true rfl) (Nat.le_of_ble_eq_true rfl) dX11_sum_83
  refine lv_tableOut (tgt := 84) hx hb dX11_sum_1 (sw4 w1 w2 w3 w4 w5) (by decide) ?_
  refine lv_ldc2 (v := -9223372036854775808) hx hb hown (hts (.constantLong RX11 239 (-9223372036854775808)) (List.mem_of_getElem? (i := 8) rfl)) dX11_sum_84 ?_
  exact retL C hS () trivial hP hD (Nat.le_of_ble_eq_true rfl) (Nat.le_of_ble_eq_true rfl) dX11_sum_87
theorem hc_X3_add_X3 : ∀ w ∈ wsX30, w ∈ wsX3_add := fun w h => List.mem_cons_of_mem _ (List.mem_append_right _ h)
set_option maxRecDepth 100000 in
set_option maxHeartbeats 4000000 in
theorem o_add (l : Launch) (g : Gt) (oa : Nat) (ow : Nat) (oe : Nat) (ot : Nat) (ov : Nat) (oc : Int32) (fow : Nat → Int32) (foe : Nat → Int32) (fot : Nat → Int32) (fov : Nat → Int32) (cy : Int32) (en_ : Int32) (d_ : Int32) (v : Int32)  : Ctr l g yX3_add wsX3_add ({ frames := 1, cells := 0, slots := 0, locals := 22 } : Room) [.ref oa, .int cy, .int en_, .int d_, .int v] [(oa, .inr (3, [.ref ow, .ref oe, .ref ot, .ref ov, .int oc])), (ow, .inl (g.2 0, 30, .inl fow)), (oe, .inl (g.2 0, 30, .inl foe)), (ot, .inl (g.2 0, 30, .inl fot)), (ov, .inl (g.2 0, 30, .inl fov))] (fun A => QI g A (fun r (u : Int32 × (Nat → Int32) × (Nat → Int32) × (Nat → Int32) × (Nat → Int32)) => (r = 0 ∨ r = 1) ∧ (OADD oc r u.1)) (fun (u : Int32 × (Nat → Int32) × (Nat → Int32) × (Nat → Int32) × (Nat → Int32)) => [(oa, .inr (3, [.ref ow, .ref oe, .ref ot, .ref ov, .int u.1])), (ow, .inl (g.2 0, 30, .inl u.2.1)), (oe, .inl (g.2 0, 30, .inl u.2.2.1)), (ot, .inl (g.2 0, 30, .inl u.2.2.2.1)), (ov, .inl (g.2 0, 30, .inl u.2.2.2.2))])) := by
  refine Ctr.of (cc := cX3_add) (maxL := 5) (ret := (some .boolean)) (by decide) rfl (Nat.le_of_ble_eq_true rfl) ?_
  intro p e s m below meth c A ls H C hP hD hA hS hl
  obtain ⟨hx, hb, hr, hts, hown, hlocks, hml, hin, hKN⟩ := id C
  have hK := hKN.1
  have hN := hKN.2
  have F : CallFix p m c cX3_add 5 s _ wsX3_add yX3_add.cls := ⟨hx, hb, hml, hown, hts⟩
  have hl : lv_has ls 5 [(0, .ref oa), (1, .int cy), (2, .int en_), (3, .int d_), (4, .int v)] := hl
  refine lv_aload_n hx hb dX3_add_0 rfl (lv_at hl 0 rfl) ?_
  refine va_get (D := g.1) (ci := 3) (v := .int oc) (C := RX3) (T := TX3) (N := 5) hx hb hts hc_X3_add_X3 hown hK hP 0 rfl rfl 4 (by decide) (hts (.fieldLink RX3 24 "OilPush$Orders" "count" "I") (List.mem_of_getElem? (i := 1) rfl)) (fun _ h => h) rfl dX3_add_1 ?_
  refine lv_bipush (v := 30) hx hb dX3_add_4 (by decide) ?_
  refine lv_icmp_lt (tgt := 11) hx hb dX3_add_6 (by decide) (fun c1 => ?_) (fun c1 => ?_)
  · refine lv_aload_n hx hb dX3_add_11 rfl (lv_at hl 0 rfl) ?_
    refine va_get (D := g.1) (ci := 3) (v := .ref ow) (C := RX3) (T := TX3) (N := 5) hx hb hts hc_X3_add_X3 hown hK hP 0 rfl rfl 0 (by decide) (hts (.fieldLink RX3 9 "OilPush$Orders" "waitsFor" "[I") (List.mem_of_getElem? (i := 2) rfl)) (fun _ h => h) rfl dX3_add_12 ?_
    refine lv_aload_n hx hb dX3_add_15 rfl (lv_at hl 0 rfl) ?_
    refine va_get (D := g.1) (ci := 3) (v := .int oc) (C := RX3) (T := TX3) (N := 5) hx hb hts hc_X3_add_X3 hown hK hP 0 rfl rfl 4 (by decide) (hts (.fieldLink RX3 24 "OilPush$Orders" "count" "I") (List.mem_of_getElem? (i := 1) rfl)) (fun _ h => h) rfl dX3_add_16 ?_
    refine lv_iload_n hx hb dX3_add_19 rfl (lv_at hl 1 rfl) ?_
    refine kV (rnN (host := "OilPush") (As := [.ref ow, .int oc, .int cy]) (rest := []) C (c_set l g ow 30 fow oc cy (by decide)) 3 gX3_add_X11_set_n28 rfl (nst_13 hN) (by decide +kernel) (by decide +kernel) (by decide +kernel) ⟨(Nat.le_of_ble_eq_true rfl), (Nat.le_of_ble_eq_true rfl)⟩ rfl hl.1 rfl (Nat.le_of_ble_eq_true rfl) dX3_add_20 ⟨(Nat.le_of_ble_eq_true rfl), (Nat.le_of_ble_eq_true rfl)⟩) (spM0 [false, true, false, false, false] hP hD rfl) hA hS (fun u3 H locs hw hP hD hS => ?_)
    replace hP : va_P g.1 vwCl [(oa, .inr (3, [.ref ow, .ref oe, .ref ot, .ref ov, .int oc])), (ow, .inl (g.2 0, 30, .inl (r_c_set 30 fow oc cy))), (oe, .inl (g.2 0, 30, .inl foe)), (ot, .inl (g.2 0, 30, .inl fot)), (ov, .inl (g.2 0, 30, .inl fov))] H := hP
    replace hD : va_D A [(oa, .inr (3, [.ref ow, .ref oe, .ref ot, .ref ov, .int oc])), (ow, .inl (g.2 0, 30, .inl (r_c_set 30 fow oc cy))), (oe, .inl (g.2 0, 30, .inl foe)), (ot, .inl (g.2 0, 30, .inl fot)), (ov, .inl (g.2 0, 30, .inl fov))] := hD
    refine lv_aload_n hx hb dX3_add_23 rfl (lv_at hl 0 rfl) ?_
    refine va_get (D := g.1) (ci := 3) (v := .ref oe) (C := RX3) (T := TX3) (N := 5) hx hb hts hc_X3_add_X3 hown hK hP 0 rfl rfl 1 (by decide) (hts (.fieldLink RX3 15 "OilPush$Orders" "end" "[I") (List.mem_of_getElem? (i := 3) rfl)) (fun _ h => h) rfl dX3_add_24 ?_
    refine lv_aload_n hx hb dX3_add_27 rfl (lv_at hl 0 rfl) ?_
    refine va_get (D := g.1) (ci := 3) (v := .int oc) (C := RX3) (T := TX3) (N := 5) hx hb hts hc_X3_add_X3 hown hK hP 0 rfl rfl 4 (by decide) (hts (.fieldLink RX3 24 "OilPush$Orders" "count" "I") (List.mem_of_getElem? (i := 1) rfl)) (fun _ h => h) rfl dX3_add_28 ?_
    refine lv_iload_n hx hb dX3_add_31 rfl (lv_at hl 2 rfl) ?_
    refine kV (rnN (host := "OilPush") (As := [.ref oe, .int oc, .int en_]) (rest := []) C (c_set l g oe 30 foe oc en_ (by decide)) 3 gX3_add_X11_set_n28 rfl (nst_13 hN) (by decide +kernel) (by decide +kernel) (by decide +kernel) ⟨(Nat.le_of_ble_eq_true rfl), (Nat.le_of_ble_eq_true rfl)⟩ rfl hl.1 rfl (Nat.le_of_ble_eq_true rfl) dX3_add_32 ⟨(Nat.le_of_ble_eq_true rfl), (Nat.le_of_ble_eq_true rfl)⟩) (spM0 [false, false, true, false, false] hP hD rfl) hA hS (fun u5 H locs hw hP hD hS => ?_)
    replace hP : va_P g.1 vwCl [(oa, .inr (3, [.ref ow, .ref oe, .ref ot, .ref ov, .int oc])), (ow, .inl (g.2 0, 30, .inl (r_c_set 30 fow oc cy))), (oe, .inl (g.2 0, 30, .inl (r_c_set 30 foe oc en_))), (ot, .inl (g.2 0, 30, .inl fot)), (ov, .inl (g.2 0, 30, .inl fov))] H := hP
    replace hD : va_D A [(oa, .inr (3, [.ref ow, .ref oe, .ref ot, .ref ov, .int oc])), (ow, .inl (g.2 0, 30, .inl (r_c_set 30 fow oc cy))), (oe, .inl (g.2 0, 30, .inl (r_c_set 30 foe oc en_))), (ot, .inl (g.2 0, 30, .inl fot)), (ov, .inl (g.2 0, 30, .inl fov))] := hD
    refine lv_aload_n hx hb dX3_add_35 rfl (lv_at hl 0 rfl) ?_
    refine va_get (D := g.1) (ci := 3) (v := .ref ot) (C := RX3) (T := TX3) (N := 5) hx hb hts hc_X3_add_X3 hown hK hP 0 rfl rfl 2 (by decide) (hts (.fieldLink RX3 18 "OilPush$Orders" "turned" "[I") (List.mem_of_getElem? (i := 4) rfl)) (fun _ h => h) rfl dX3_add_36 ?_
    refine lv_aload_n hx hb dX3_add_39 rfl (lv_at hl 0 rfl) ?_
    refine va_get (D := g.1) (ci := 3) (v := .int oc) (C := RX3) (T := TX3) (N := 5) hx hb hts hc_X3_add_X3 hown hK hP 0 rfl rfl 4 (by decide) (hts (.fieldLink RX3 24 "OilPush$Orders" "count" "I") (List.mem_of_getElem? (i := 1) rfl)) (fun _ h => h) rfl dX3_add_40 ?_
    refine lv_iload_n hx hb dX3_add_43 rfl (lv_at hl 3 rfl) ?_
    refine kV (rnN (host := "OilPush") (As := [.ref ot, .int oc, .int d_]) (rest := []) C (c_set l g ot 30 fot oc d_ (by decide)) 3 gX3_add_X11_set_n28 rfl (nst_13 hN) (by decide +kernel) (by decide +kernel) (by decide +kernel) ⟨(Nat.le_of_ble_eq_true rfl), (Nat.le_of_ble_eq_true rfl)⟩ rfl hl.1 rfl (Nat.le_of_ble_eq_true rfl) dX3_add_44 ⟨(Nat.le_of_ble_eq_true rfl), (Nat.le_of_ble_eq_true rfl)⟩) (spM0 [false, false, false, true, false] hP hD rfl) hA hS (fun u7 H locs hw hP hD hS => ?_)
    replace hP : va_P g.1 vwCl [(oa, .inr (3, [.ref ow, .ref oe, .ref ot, .ref ov, .int oc])), (ow, .inl (g.2 0, 30, .inl (r_c_set 30 fow oc cy))), (oe, .inl (g.2 0, 30, .inl (r_c_set 30 foe oc en_))), (ot, .inl (g.2 0, 30, .inl (r_c_set 30 fot oc d_))), (ov, .inl (g.2 0, 30, .inl fov))] H := hP
    replace hD : va_D A [(oa, .inr (3, [.ref ow, .ref oe, .ref ot, .ref ov, .int oc])), (ow, .inl (g.2 0, 30, .inl (r_c_set 30 fow oc cy))), (oe, .inl (g.2 0, 30, .inl (r_c_set 30 foe oc en_))), (ot, .inl (g.2 0, 30, .inl (r_c_set 30 fot oc d_))), (ov, .inl (g.2 0, 30, .inl fov))] := hD
    refine lv_aload_n hx hb dX3_add_47 rfl (lv_at hl 0 rfl) ?_
    refine va_get (D := g.1) (ci := 3) (v := .ref ov) (C := RX3) (T := TX3) (N := 5) hx hb hts hc_X3_add_X3 hown hK hP 0 rfl rfl 3 (by decide) (hts (.fieldLink RX3 21 "OilPush$Orders" "valve" "[I") (List.mem_of_getElem? (i := 5) rfl)) (fun _ h => h) rfl dX3_add_48 ?_
    refine lv_aload_n hx hb dX3_add_51 rfl (lv_at hl 0 rfl) ?_
    refine va_get (D := g.1) (ci := 3) (v := .int oc) (C := RX3) (T := TX3) (N := 5) hx hb hts hc_X3_add_X3 hown hK hP 0 rfl rfl 4 (by decide) (hts (.fieldLink RX3 24 "OilPush$Orders" "count" "I") (List.mem_of_getElem? (i := 1) rfl)) (fun _ h => h) rfl dX3_add_52 ?_
    refine lv_iload hx hb dX3_add_55 (lv_at hl 4 rfl) ?_
    refine kV (rnN (host := "OilPush") (As := [.ref ov, .int oc, .int v]) (rest := []) C (c_set l g ov 30 fov oc v (by decide)) 3 gX3_add_X11_set_n28 rfl (nst_13 hN) (by decide +kernel) (by decide +kernel) (by decide +kernel) ⟨(Nat.le_of_ble_eq_true rfl), (Nat.le_of_ble_eq_true rfl)⟩ rfl hl.1 rfl (Nat.le_of_ble_eq_true rfl) dX3_add_57 ⟨(Nat.le_of_ble_eq_true rfl), (Nat.le_of_ble_eq_true rfl)⟩) (spM0 [false, false, false, false, true] hP hD rfl) hA hS (fun u9 H locs hw hP hD hS => ?_)
    replace hP : va_P g.1 vwCl [(oa, .inr (3, [.ref ow, .ref oe, .ref ot, .ref ov, .int oc])), (ow, .inl (g.2 0, 30, .inl (r_c_set 30 fow oc cy))), (oe, .inl (g.2 0, 30, .inl (r_c_set 30 foe oc en_))), (ot, .inl (g.2 0, 30, .inl (r_c_set 30 fot oc d_))), (ov, .inl (g.2 0, 30, .inl (r_c_set 30 fov oc v)))] H := hP
    replace hD : va_D A [(oa, .inr (3, [.ref ow, .ref oe, .ref ot, .ref ov, .int oc])), (ow, .inl (g.2 0, 30, .inl (r_c_set 30 fow oc cy))), (oe, .inl (g.2 0, 30, .inl (r_c_set 30 foe oc en_))), (ot, .inl (g.2 0, 30, .inl (r_c_set 30 fot oc d_))), (ov, .inl (g.2 0, 30, .inl (r_c_set 30 fov oc v)))] := hD
    refine lv_aload_n hx hb dX3_add_60 rfl (lv_at hl 0 rfl) ?_
    refine lv_dup hx hb dX3_add_61 rfl ?_
    refine va_get (D := g.1) (ci := 3) (v := .int oc) (C := RX3) (T := TX3) (N := 5) hx hb hts hc_X3_add_X3 hown hK hP 0 rfl rfl 4 (by decide) (hts (.fieldLink RX3 24 "OilPush$Orders" "count" "I") (List.mem_of_getElem? (i := 1) rfl)) (fun _ h => h) rfl dX3_add_62 ?_
    refine lv_iconst (v := 1) hx hb dX3_add_65 (by decide) ?_
    refine lv_iadd hx hb dX3_add_66 ?_
    refine va_put (D := g.1) (ci := 3) (v := .int (oc + 1)) (ty := .int) (C := RX3) (T := TX3) (N := 5) hx hb hts hc_X3_add_X3 tyX3 tyX3_ok nmX3 hown hK hP hD hS 0 rfl rfl 4 (by decide) (hts (.fieldLink RX3 24 "OilPush$Orders" "count" "I") (List.mem_of_getElem? (i := 1) rfl)) (fun _ h => h) rfl (by decide +kernel) rfl rfl (Nat.le_of_ble_eq_true rfl) dX3_add_67 (fun H locs hP hD hS => ?_)
    replace hP : va_P g.1 vwCl [(oa, .inr (3, [.ref ow, .ref oe, .ref ot, .ref ov, .int (oc + 1)])), (ow, .inl (g.2 0, 30, .inl (r_c_set 30 fow oc cy))), (oe, .inl (g.2 0, 30, .inl (r_c_set 30 foe oc en_))), (ot, .inl (g.2 0, 30, .inl (r_c_set 30 fot oc d_))), (ov, .inl (g.2 0, 30, .inl (r_c_set 30 fov oc v)))] H := hP
    replace hD : va_D A [(oa, .inr (3, [.ref ow, .ref oe, .ref ot, .ref ov, .int (oc + 1)])), (ow, .inl (g.2 0, 30, .inl (r_c_set 30 fow oc cy))), (oe, .inl (g.2 0, 30, .inl (r_c_set 30 foe oc en_))), (ot, .inl (g.2 0, 30, .inl (r_c_set 30 fot oc d_))), (ov, .inl (g.2 0, 30, .inl (r_c_set 30 fov oc v)))] := hD
    refine lv_iconst (v := 1) hx hb dX3_add_70 (by decide) ?_
    exact retZ C rfl hS ((oc + 1), (r_c_set 30 fow oc cy), (r_c_set 30 foe oc en_), (r_c_set 30 fot oc d_), (r_c_set 30 fov oc v)) ⟨(Or.inr rfl), (Or.inl ⟨c1, rfl, rfl⟩)⟩ hP hD (Nat.le_of_ble_eq_true rfl) (Nat.le_of_ble_eq_true rfl) dX3_add_71
  refine lv_iconst (v := 0) hx hb dX3_add_9 (by decide) ?_
  exact retZ C rfl hS (oc, fow, foe, fot, fov) ⟨(Or.inl rfl), (Or.inr ⟨c1, rfl, rfl⟩)⟩ hP hD (Nat.le_of_ble_eq_true rfl) (Nat.le_of_ble_eq_true rfl) dX3_add_10
theorem hc_X11_order_X11 : ∀ w ∈ wsX110, w ∈ wsX11_order := fun w h => List.mem_cons_of_mem _ (List.mem_append_left _ (List.mem_append_left _ (List.mem_append_right _ h)))
theorem hc_X11_order_X3 : ∀ w ∈ wsX30, w ∈ wsX11_order := fun w h => List.mem_cons_of_mem _ (List.mem_append_left _ (List.mem_append_right _ h))
set_option maxRecDepth 100000 in
set_option maxHeartbeats 4000000 in
theorem x_order (l : Launch) (g : Gt) (h0 : Nat) (sha : Nat) (tra : Nat) (lf : Int32) (std : Int32) (tkd : Int32) (tck : Int32) (sa : Nat) (ea : Nat) (oa : Nat) (tsa : Nat) (usa : Nat) (vea : Nat) (lka : Nat) (ra : Nat) (pl : Nat) (gv : Int32) (lim : Int32) (ca : Nat) (cnt : Int32) (la : Nat) (fc : Nat → Option Nat) (ow : Nat) (oe : Nat) (ot : Nat) (ov : Nat) (oc : Int32) (fow : Nat → Int32) (foe : Nat → Int32) (fot : Nat → Int32) (fov : Nat → Int32) (cy : Int32) (en_ : Int32) (d_ : Int32) (v : Int32) (hfc : FCs cnt fc) : Ctr l g yX11_order wsX11_order ({ frames := 2, cells := 0, slots := 0, locals := 46 } : Room) [.ref h0, .int cy, .int en_, .int d_, .int v] [(h0, .inr (11, [.ref pl, .ref sa, .ref ea, .ref oa, .ref tsa, .ref usa, .ref vea, .ref lka, .ref ra, .ref sha, .ref tra, .int lf, .int std, .int tkd, .int tck])), (pl, .inr (4, [.int gv, .int lim, .ref ca, .int cnt, .ref la])), (ca, .inl (g.2 3, 6, .inr (.inr (.inr (.inr fc))))), (oa, .inr (3, [.ref ow, .ref oe, .ref ot, .ref ov, .int oc])), (ow, .inl (g.2 0, 30, .inl fow)), (oe, .inl (g.2 0, 30, .inl foe)), (ot, .inl (g.2 0, 30, .inl fot)), (ov, .inl (g.2 0, 30, .inl fov))] (fun A => QI g A (fun r (u : Int32 × (Nat → Int32) × (Nat → Int32) × (Nat → Int32) × (Nat → Int32)) => (r = so_r cnt oc cy en_ d_ v) ∧ (u.1 = so_n cnt oc cy en_ d_ v)) (fun (u : Int32 × (Nat → Int32) × (Nat → Int32) × (Nat → Int32) × (Nat → Int32)) => [(h0, .inr (11, [.ref pl, .ref sa, .ref ea, .ref oa, .ref tsa, .ref usa, .ref vea, .ref lka, .ref ra, .ref sha, .ref tra, .int lf, .int std, .int tkd, .int tck])), (pl, .inr (4, [.int gv, .int lim, .ref ca, .int cnt, .ref la])), (ca, .inl (g.2 3, 6, .inr (.inr (.inr (.inr fc))))), (oa, .inr (3, [.ref ow, .ref oe, .ref ot, .ref ov, .int u.1])), (ow, .inl (g.2 0, 30, .inl u.2.1)), (oe, .inl (g.2 0, 30, .inl u.2.2.1)), (ot, .inl (g.2 0, 30, .inl u.2.2.2.1)), (ov, .inl (g.2 0, 30, .inl u.2.2.2.2))])) := by
  refine Ctr.of (cc := cX11_order) (maxL := 5) (ret := (some .int)) (by decide) rfl (Nat.le_of_ble_eq_true rfl) ?_
  intro p e s m below meth c A ls H C hP hD hA hS hl
  obtain ⟨hx, hb, hr, hts, hown, hlocks, hml, hin, hKN⟩ := id C
  have hK := hKN.1
  have hN := hKN.2
  have F : CallFix p m c cX11_order 5 s _ wsX11_order yX11_order.cls := ⟨hx, hb, hml, hown, hts⟩
  have hl : lv_has ls 5 [(0, .ref h0), (1, .int cy), (2, .int en_), (3, .int d_), (4, .int v)] := hl
  refine lv_aload_n hx hb dX11_order_0 rfl (lv_at hl 0 rfl) ?_
  refine va_get (D := g.1) (ci := 11) (v := .ref pl) (C := RX11) (T := TX11) (N := 15) hx hb hts hc_X11_order_X11 hown hK hP 0 rfl rfl 0 (by decide) (hts (.fieldLink RX11 12 "OilPush" "plant" "LOilPush$Plant;") (List.mem_of_getElem? (i := 1) rfl)) (fun _ h => h) rfl dX11_order_1 ?_
  refine lv_iload_n hx hb dX11_order_4 rfl (lv_at hl 1 rfl) ?_
  refine kQ (rnV (As := [.int cy]) (rest := []) (Cn := RX4) C (p_at l g pl gv lim ca cnt la fc cy) 1 gX11_order_X4_at rfl (by decide +kernel) ⟨(Nat.le_of_ble_eq_true rfl), (Nat.le_of_ble_eq_true rfl)⟩ hP (k := 1) (ci := 4) rfl rfl rfl rfl hl.1 rfl (Nat.le_of_ble_eq_true rfl) dX11_order_5 ⟨(Nat.le_of_ble_eq_true rfl), (Nat.le_of_ble_eq_true rfl)⟩) (spM0 [false, true, true, false, false, false, false, false] hP hD rfl) hA hS (fun r1 u2 H locs hw hP hD hS => ?_)
  have f3 := hw
  replace hP : va_P g.1 vwCl [(h0, .inr (11, [.ref pl, .ref sa, .ref ea, .ref oa, .ref tsa, .ref usa, .ref vea, .ref lka, .ref ra, .ref sha, .ref tra, .int lf, .int std, .int tkd, .int tck])), (pl, .inr (4, [.int gv, .int lim, .ref ca, .int cnt, .ref la])), (ca, .inl (g.2 3, 6, .inr (.inr (.inr (.inr fc))))), (oa, .inr (3, [.ref ow, .ref oe, .ref ot, .ref ov, .int oc])), (ow, .inl (g.2 0, 30, .inl fow)), (oe, .inl (g.2 0, 30, .inl foe)), (ot, .inl (g.2 0, 30, .inl fot)), (ov, .inl (g.2 0, 30, .inl fov))] H := hP
  replace hD : va_D A [(h0, .inr (11, [.ref pl, .ref sa, .ref ea, .ref oa, .ref tsa, .ref usa, .ref vea, .ref lka, .ref ra, .ref sha, .ref tra, .int lf, .int std, .int tkd, .int tck])), (pl, .inr (4, [.int gv, .int lim, .ref ca, .int cnt, .ref la])), (ca, .inl (g.2 3, 6, .inr (.inr (.inr (.inr fc))))), (oa, .inr (3, [.ref ow, .ref oe, .ref ot, .ref ov, .int oc])), (ow, .inl (g.2 0, 30, .inl fow)), (oe, .inl (g.2 0, 30, .inl foe)), (ot, .inl (g.2 0, 30, .inl fot)), (ov, .inl (g.2 0, 30, .inl fov))] := hD
  rcases r1 with _ | yb
  · refine nx_v (v := .null) rfl ?_
    refine lv_ifnullN (tgt := 22) hx hb dX11_order_8 (by decide) ?_
    refine lv_iconst (v := -1) hx hb dX11_order_22 (by decide) ?_
    exact retI C hS (oc, fow, foe, fot, fov) ⟨(by simp only [so_r, so_n, if_pos hfc, if_pos f3, if_pos (hfc _ f3)]), (by simp only [so_r, so_n, if_pos hfc, if_pos f3, if_pos (hfc _ f3)])⟩ hP hD (Nat.le_of_ble_eq_true rfl) (Nat.le_of_ble_eq_true rfl) dX11_order_23
  refine nx_v (v := .ref yb) rfl ?_
  refine lv_ifnull hx hb dX11_order_8 ?_
  refine lv_aload_n hx hb dX11_order_11 rfl (lv_at hl 0 rfl) ?_
  refine va_get (D := g.1) (ci := 11) (v := .ref pl) (C := RX11) (T := TX11) (N := 15) hx hb hts hc_X11_order_X11 hown hK hP 0 rfl rfl 0 (by decide) (hts (.fieldLink RX11 12 "OilPush" "plant" "LOilPush$Plant;") (List.mem_of_getElem? (i := 1) rfl)) (fun _ h => h) rfl dX11_order_12 ?_
  refine lv_iload_n hx hb dX11_order_15 rfl (lv_at hl 3 rfl) ?_
  refine kQ (rnV (As := [.int d_]) (rest := []) (Cn := RX4) C (p_at l g pl gv lim ca cnt la fc d_) 1 gX11_order_X4_at rfl (by decide +kernel) ⟨(Nat.le_of_ble_eq_true rfl), (Nat.le_of_ble_eq_true rfl)⟩ hP (k := 1) (ci := 4) rfl rfl rfl rfl hl.1 rfl (Nat.le_of_ble_eq_true rfl) dX11_order_16 ⟨(Nat.le_of_ble_eq_true rfl), (Nat.le_of_ble_eq_true rfl)⟩) (spM0 [false, true, true, false, false, false, false, false] hP hD rfl) hA hS (fun r4 u5 H locs hw hP hD hS => ?_)
  have f6 := hw
  replace hP : va_P g.1 vwCl [(h0, .inr (11, [.ref pl, .ref sa, .ref ea, .ref oa, .ref tsa, .ref usa, .ref vea, .ref lka, .ref ra, .ref sha, .ref tra, .int lf, .int std, .int tkd, .int tck])), (pl, .inr (4, [.int gv, .int lim, .ref ca, .int cnt, .ref la])), (ca, .inl (g.2 3, 6, .inr (.inr (.inr (.inr fc))))), (oa, .inr (3, [.ref ow, .ref oe, .ref ot, .ref ov, .int oc])), (ow, .inl (g.2 0, 30, .inl fow)), (oe, .inl (g.2 0, 30, .inl foe)), (ot, .inl (g.2 0, 30, .inl fot)), (ov, .inl (g.2 0, 30, .inl fov))] H := hP
  replace hD : va_D A [(h0, .inr (11, [.ref pl, .ref sa, .ref ea, .ref oa, .ref tsa, .ref usa, .ref vea, .ref lka, .ref ra, .ref sha, .ref tra, .int lf, .int std, .int tkd, .int tck])), (pl, .inr (4, [.int gv, .int lim, .ref ca, .int cnt, .ref la])), (ca, .inl (g.2 3, 6, .inr (.inr (.inr (.inr fc))))), (oa, .inr (3, [.ref ow, .ref oe, .ref ot, .ref ov, .int oc])), (ow, .inl (g.2 0, 30, .inl fow)), (oe, .inl (g.2 0, 30, .inl foe)), (ot, .inl (g.2 0, 30, .inl fot)), (ov, .inl (g.2 0, 30, .inl fov))] := hD
  rcases r4 with _ | yb
  · refine nx_v (v := .null) rfl ?_
    refine lv_ifnonnullN hx hb dX11_order_19 ?_
    refine lv_iconst (v := -1) hx hb dX11_order_22 (by decide) ?_
    exact retI C hS (oc, fow, foe, fot, fov) ⟨(by simp only [so_r, so_n, if_pos hfc, if_pos f3, if_neg (pa_some f3), if_pos f6, if_pos (hfc _ f6)]), (by simp only [so_r, so_n, if_pos hfc, if_pos f3, if_neg (pa_some f3), if_pos f6, if_pos (hfc _ f6)])⟩ hP hD (Nat.le_of_ble_eq_true rfl) (Nat.le_of_ble_eq_true rfl) dX11_order_23
  refine nx_v (v := .ref yb) rfl ?_
  refine lv_ifnonnull (tgt := 24) hx hb dX11_order_19 (by decide) ?_
  refine lv_iload_n hx hb dX11_order_24 rfl (lv_at hl 2 rfl) ?_
  refine lv_iconst (v := 0) hx hb dX11_order_25 (by decide) ?_
  refine lv_iconst (v := 2) hx hb dX11_order_26 (by decide) ?_
  refine pureIS (As := [.int en_, .int 0, .int 2]) (rest := []) F (c_within l en_ 0 2) 3 gX11_order_X11_within rfl (by decide +kernel) rfl rfl ⟨(Nat.le_of_ble_eq_true rfl), (Nat.le_of_ble_eq_true rfl)⟩ (Nat.le_of_ble_eq_true rfl) (Nat.le_of_ble_eq_true rfl) rfl hl.1 rfl (Nat.le_of_ble_eq_true rfl) dX11_order_27 ?_
  refine lv_if_eq (tgt := 43) hx hb dX11_order_30 (by decide) (fun c7 => ?_) (fun c7 => ?_)
  · refine lv_bipush (v := -2) hx hb dX11_order_43 (by decide) ?_
    exact retI C hS (oc, fow, foe, fot, fov) ⟨(by simp only [so_r, so_n, if_pos hfc, if_pos f3, if_neg (pa_some f3), if_pos f6, if_neg (pa_some f6), if_pos c7]), (by simp only [so_r, so_n, if_pos hfc, if_pos f3, if_neg (pa_some f3), if_pos f6, if_neg (pa_some f6), if_pos c7])⟩ hP hD (Nat.le_of_ble_eq_true rfl) (Nat.le_of_ble_eq_true rfl) dX11_order_45
  refine lv_iload hx hb dX11_order_33 (lv_at hl 4 rfl) ?_
  refine lv_iconst (v := 0) hx hb dX11_order_35 (by decide) ?_
  refine lv_iconst (v := 2) hx hb dX11_order_36 (by decide) ?_
  refine pureIS (As := [.int v, .int 0, .int 2]) (rest := []) F (c_within l v 0 2) 3 gX11_order_X11_within rfl (by decide +kernel) rfl rfl ⟨(Nat.le_of_ble_eq_true rfl), (Nat.le_of_ble_eq_true rfl)⟩ (Nat.le_of_ble_eq_true rfl) (Nat.le_of_ble_eq_true rfl) rfl hl.1 rfl (Nat.le_of_ble_eq_true rfl) dX11_order_37 ?_
  refine lv_if_ne (tgt := 46) hx hb dX11_order_40 (by decide) (fun c8 => ?_) (fun c8 => ?_)
  · refine lv_aload_n hx hb dX11_order_46 rfl (lv_at hl 0 rfl) ?_
    refine va_get (D := g.1) (ci := 11) (v := .ref oa) (C := RX11) (T := TX11) (N := 15) hx hb hts hc_X11_order_X11 hown hK hP 0 rfl rfl 3 (by decide) (hts (.fieldLink RX11 35 "OilPush" "orders" "LOilPush$Orders;") (List.mem_of_getElem? (i := 2) rfl)) (fun _ h => h) rfl dX11_order_47 ?_
    refine lv_iload_n hx hb dX11_order_50 rfl (lv_at hl 1 rfl) ?_
    refine lv_iload_n hx hb dX11_order_51 rfl (lv_at hl 2 rfl) ?_
    refine lv_iload_n hx hb dX11_order_52 rfl (lv_at hl 3 rfl) ?_
    refine lv_iload hx hb dX11_order_53 (lv_at hl 4 rfl) ?_
    refine kI (rnV (As := [.int cy, .int en_, .int d_, .int v]) (rest := []) (Cn := RX3) C (o_add l g oa ow oe ot ov oc fow foe fot fov cy en_ d_ v) 4 gX11_order_X3_add rfl (by decide +kernel) ⟨(Nat.le_of_ble_eq_true rfl), (Nat.le_of_ble_eq_true rfl)⟩ hP (k := 3) (ci := 3) rfl rfl rfl rfl hl.1 rfl (Nat.le_of_ble_eq_true rfl) dX11_order_55 ⟨(Nat.le_of_ble_eq_true rfl), (Nat.le_of_ble_eq_true rfl)⟩) (spM0 [false, false, false, true, true, true, true, true] hP hD rfl) hA hS (fun r9 u10 H locs hw hP hD hS => ?_)
    obtain ⟨x11, x12, x13, x14, x15⟩ := u10
    obtain ⟨f16, f17⟩ := hw
    replace hP : va_P g.1 vwCl [(h0, .inr (11, [.ref pl, .ref sa, .ref ea, .ref oa, .ref tsa, .ref usa, .ref vea, .ref lka, .ref ra, .ref sha, .ref tra, .int lf, .int std, .int tkd, .int tck])), (pl, .inr (4, [.int gv, .int lim, .ref ca, .int cnt, .ref la])), (ca, .inl (g.2 3, 6, .inr (.inr (.inr (.inr fc))))), (oa, .inr (3, [.ref ow, .ref oe, .ref ot, .ref ov, .int x11])), (ow, .inl (g.2 0, 30, .inl x12)), (oe, .inl (g.2 0, 30, .inl x13)), (ot, .inl (g.2 0, 30, .inl x14)), (ov, .inl (g.2 0, 30, .inl x15))] H := hP
    replace hD : va_D A [(h0, .inr (11, [.ref pl, .ref sa, .ref ea, .ref oa, .ref tsa, .ref usa, .ref vea, .ref lka, .ref ra, .ref sha, .ref tra, .int lf, .int std, .int tkd, .int tck])), (pl, .inr (4, [.int gv, .int lim, .ref ca, .int cnt, .ref la])), (ca, .inl (g.2 3, 6, .inr (.inr (.inr (.inr fc))))), (oa, .inr (3, [.ref ow, .ref oe, .ref ot, .ref ov, .int x11])), (ow, .inl (g.2 0, 30, .inl x12)), (oe, .inl (g.2 0, 30, .inl x13)), (ot, .inl (g.2 0, 30, .inl x14)), (ov, .inl (g.2 0, 30, .inl x15))] := hD
    replace f16 : r9 = 0 ∨ r9 = 1 := f16
    replace f17 : OADD oc r9 x11 := f17
    refine lv_if_eq (tgt := 71) hx hb dX11_order_58 (by decide) (fun c18 => ?_) (fun c18 => ?_)
    · refine lv_bipush (v := -4) hx hb dX11_order_71 (by decide) ?_
      exact retI C hS (x11, x12, x13, x14, x15) ⟨(by simp only [so_r, so_n, if_pos hfc, if_pos f3, if_neg (pa_some f3), if_pos f6, if_neg (pa_some f6), if_neg c7, if_neg c8, if_pos f16, if_pos f17, if_neg (oadd_f f17 c18).1, (oadd_f f17 c18).2, if_pos c18]), (by simp only [so_r, so_n, if_pos hfc, if_pos f3, if_neg (pa_some f3), if_pos f6, if_neg (pa_some f6), if_neg c7, if_neg c8, if_pos f16, if_pos f17, if_neg (oadd_f f17 c18).1, (oadd_f f17 c18).2, if_pos c18])⟩ hP hD (Nat.le_of_ble_eq_true rfl) (Nat.le_of_ble_eq_true rfl) dX11_order_73
    refine lv_aload_n hx hb dX11_order_61 rfl (lv_at hl 0 rfl) ?_
    refine va_get (D := g.1) (ci := 11) (v := .ref oa) (C := RX11) (T := TX11) (N := 15) hx hb hts hc_X11_order_X11 hown hK hP 0 rfl rfl 3 (by decide) (hts (.fieldLink RX11 35 "OilPush" "orders" "LOilPush$Orders;") (List.mem_of_getElem? (i := 2) rfl)) (fun _ h => h) rfl dX11_order_62 ?_
    refine va_get (D := g.1) (ci := 3) (v := .int x11) (C := RX3) (T := TX3) (N := 5) hx hb hts hc_X11_order_X3 hown hK hP 3 rfl rfl 4 (by decide) (hts (.fieldLink RX11 244 "OilPush$Orders" "count" "I") (List.mem_of_getElem? (i := 3) rfl)) (fun _ h => h) rfl dX11_order_65 ?_
    refine lv_goto (tgt := 73) hx hb dX11_order_68 (by decide) ?_
    exact retI C hS (x11, x12, x13, x14, x15) ⟨(by simp only [so_r, so_n, if_pos hfc, if_pos f3, if_neg (pa_some f3), if_pos f6, if_neg (pa_some f6), if_neg c7, if_neg c8, if_pos f16, if_pos f17, if_pos (oadd_t f17 c18).1, (oadd_t f17 c18).2, if_neg c18]), (by simp only [so_r, so_n, if_pos hfc, if_pos f3, if_neg (pa_some f3), if_pos f6, if_neg (pa_some f6), if_neg c7, if_neg c8, if_pos f16, if_pos f17, if_pos (oadd_t f17 c18).1, (oadd_t f17 c18).2, if_neg c18])⟩ hP hD (Nat.le_of_ble_eq_true rfl) (Nat.le_of_ble_eq_true rfl) dX11_order_73
  refine lv_bipush (v := -2) hx hb dX11_order_43 (by decide) ?_
  exact retI C hS (oc, fow, foe, fot, fov) ⟨(by simp only [so_r, so_n, if_pos hfc, if_pos f3, if_neg (pa_some f3), if_pos f6, if_neg (pa_some f6), if_neg c7, if_pos c8]), (by simp only [so_r, so_n, if_pos hfc, if_pos f3, if_neg (pa_some f3), if_pos f6, if_neg (pa_some f6), if_neg c7, if_pos c8])⟩ hP hD (Nat.le_of_ble_eq_true rfl) (Nat.le_of_ble_eq_true rfl) dX11_order_45
theorem TB_set {ft : Nat → Int32} (h : TB ft) {n : Nat} {i v : Int32} (hv : v.toInt ≤ 200) : TB (r_c_set n ft i v) := by
  unfold r_c_set
  split
  · exact h
  · split
    · exact h
    · intro c
      by_cases e : c = i.toNatClampNeg
      · subst e; rw [pk_us]; exact hv
      · rw [pk_un e]; exact h c
theorem within_200 {t : Int32} (h : ¬ r_c_within t 0 200 = 0) : t.toInt ≤ 200 := by
  rw [within_eq] at h
  by_cases h2 : (0 : Int32).toInt ≤ t.toInt ∧ t.toInt ≤ (200 : Int32).toInt
  · exact h2.2
  · rw [if_neg h2] at h; exact absurd rfl h
theorem hc_X5_add_X5 : ∀ w ∈ wsX50, w ∈ wsX5_add := fun w h => List.mem_cons_of_mem _ (List.mem_append_right _ h)
set_option maxRecDepth 100000 in
set_option maxHeartbeats 4000000 in
theorem r_add (l : Launch) (g : Gt) (ra : Nat) (rt : Nat) (ro : Nat) (rx : Nat) (rc : Int32) (frt : Nat → Int32) (fro : Nat → Int32) (frx : Nat → Int32) (tt : Int32) (cy : Int32) (xx : Int32) (hTB : TB frt) (ht : tt.toInt ≤ 200) : Ctr l g yX5_add wsX5_add ({ frames := 1, cells := 0, slots := 0, locals := 22 } : Room) [.ref ra, .int tt, .int cy, .int xx] [(ra, .inr (5, [.ref rt, .ref ro, .ref rx, .int rc])), (rt, .inl (g.2 0, 20, .inl frt)), (ro, .inl (g.2 0, 20, .inl fro)), (rx, .inl (g.2 0, 20, .inl frx))] (fun A => QI g A (fun r (u : Int32 × (Nat → Int32) × (Nat → Int32) × (Nat → Int32)) => (r = 0 ∨ r = 1) ∧ (TB u.2.1) ∧ (RADD rc r u.1)) (fun (u : Int32 × (Nat → Int32) × (Nat → Int32) × (Nat → Int32)) => [(ra, .inr (5, [.ref rt, .ref ro, .ref rx, .int u.1])), (rt, .inl (g.2 0, 20, .inl u.2.1)), (ro, .inl (g.2 0, 20, .inl u.2.2.1)), (rx, .inl (g.2 0, 20, .inl u.2.2.2))])) := by
  refine Ctr.of (cc := cX5_add) (maxL := 4) (ret := (some .boolean)) (by decide) rfl (Nat.le_of_ble_eq_true rfl) ?_
  intro p e s m below meth c A ls H C hP hD hA hS hl
  obtain ⟨hx, hb, hr, hts, hown, hlocks, hml, hin, hKN⟩ := id C
  have hK := hKN.1
  have hN := hKN.2
  have F : CallFix p m c cX5_add 4 s _ wsX5_add yX5_add.cls := ⟨hx, hb, hml, hown, hts⟩
  have hl : lv_has ls 4 [(0, .ref ra), (1, .int tt), (2, .int cy), (3, .int xx)] := hl
  refine lv_aload_n hx hb dX5_add_0 rfl (lv_at hl 0 rfl) ?_
  refine va_get (D := g.1) (ci := 5) (v := .int rc) (C := RX5) (T := TX5) (N := 4) hx hb hts hc_X5_add_X5 hown hK hP 0 rfl rfl 3 (by decide) (hts (.fieldLink RX5 21 "OilPush$Readings" "count" "I") (List.mem_of_getElem? (i := 1) rfl)) (fun _ h => h) rfl dX5_add_1 ?_
  refine lv_bipush (v := 20) hx hb dX5_add_4 (by decide) ?_
  refine lv_icmp_lt (tgt := 11) hx hb dX5_add_6 (by decide) (fun c1 => ?_) (fun c1 => ?_)
  · refine lv_aload_n hx hb dX5_add_11 rfl (lv_at hl 0 rfl) ?_
    refine va_get (D := g.1) (ci := 5) (v := .ref rt) (C := RX5) (T := TX5) (N := 4) hx hb hts hc_X5_add_X5 hown hK hP 0 rfl rfl 0 (by decide) (hts (.fieldLink RX5 9 "OilPush$Readings" "time" "[I") (List.mem_of_getElem? (i := 2) rfl)) (fun _ h => h) rfl dX5_add_12 ?_
    refine lv_aload_n hx hb dX5_add_15 rfl (lv_at hl 0 rfl) ?_
    refine va_get (D := g.1) (ci := 5) (v := .int rc) (C := RX5) (T := TX5) (N := 4) hx hb hts hc_X5_add_X5 hown hK hP 0 rfl rfl 3 (by decide) (hts (.fieldLink RX5 21 "OilPush$Readings" "count" "I") (List.mem_of_getElem? (i := 1) rfl)) (fun _ h => h) rfl dX5_add_16 ?_
    refine lv_iload_n hx hb dX5_add_19 rfl (lv_at hl 1 rfl) ?_
    refine kV (rnN (host := "OilPush") (As := [.ref rt, .int rc, .int tt]) (rest := []) C (c_set l g rt 20 frt rc tt (by decide)) 3 gX5_add_X11_set_n25 rfl (nst_18 hN) (by decide +kernel) (by decide +kernel) (by decide +kernel) ⟨(Nat.le_of_ble_eq_true rfl), (Nat.le_of_ble_eq_true rfl)⟩ rfl hl.1 rfl (Nat.le_of_ble_eq_true rfl) dX5_add_20 ⟨(Nat.le_of_ble_eq_true rfl), (Nat.le_of_ble_eq_true rfl)⟩) (spM0 [false, true, false, false] hP hD rfl) hA hS (fun u3 H locs hw hP hD hS => ?_)
    replace hP : va_P g.1 vwCl [(ra, .inr (5, [.ref rt, .ref ro, .ref rx, .int rc])), (rt, .inl (g.2 0, 20, .inl (r_c_set 20 frt rc tt))), (ro, .inl (g.2 0, 20, .inl fro)), (rx, .inl (g.2 0, 20, .inl frx))] H := hP
    replace hD : va_D A [(ra, .inr (5, [.ref rt, .ref ro, .ref rx, .int rc])), (rt, .inl (g.2 0, 20, .inl (r_c_set 20 frt rc tt))), (ro, .inl (g.2 0, 20, .inl fro)), (rx, .inl (g.2 0, 20, .inl frx))] := hD
    refine lv_aload_n hx hb dX5_add_23 rfl (lv_at hl 0 rfl) ?_
    refine va_get (D := g.1) (ci := 5) (v := .ref ro) (C := RX5) (T := TX5) (N := 4) hx hb hts hc_X5_add_X5 hown hK hP 0 rfl rfl 1 (by decide) (hts (.fieldLink RX5 15 "OilPush$Readings" "of" "[I") (List.mem_of_getElem? (i := 3) rfl)) (fun _ h => h) rfl dX5_add_24 ?_
    refine lv_aload_n hx hb dX5_add_27 rfl (lv_at hl 0 rfl) ?_
    refine va_get (D := g.1) (ci := 5) (v := .int rc) (C := RX5) (T := TX5) (N := 4) hx hb hts hc_X5_add_X5 hown hK hP 0 rfl rfl 3 (by decide) (hts (.fieldLink RX5 21 "OilPush$Readings" "count" "I") (List.mem_of_getElem? (i := 1) rfl)) (fun _ h => h) rfl dX5_add_28 ?_
    refine lv_iload_n hx hb dX5_add_31 rfl (lv_at hl 2 rfl) ?_
    refine kV (rnN (host := "OilPush") (As := [.ref ro, .int rc, .int cy]) (rest := []) C (c_set l g ro 20 fro rc cy (by decide)) 3 gX5_add_X11_set_n25 rfl (nst_18 hN) (by decide +kernel) (by decide +kernel) (by decide +kernel) ⟨(Nat.le_of_ble_eq_true rfl), (Nat.le_of_ble_eq_true rfl)⟩ rfl hl.1 rfl (Nat.le_of_ble_eq_true rfl) dX5_add_32 ⟨(Nat.le_of_ble_eq_true rfl), (Nat.le_of_ble_eq_true rfl)⟩) (spM0 [false, false, true, false] hP hD rfl) hA hS (fun u5 H locs hw hP hD hS => ?_)
    replace hP : va_P g.1 vwCl [(ra, .inr (5, [.ref rt, .ref ro, .ref rx, .int rc])), (rt, .inl (g.2 0, 20, .inl (r_c_set 20 frt rc tt))), (ro, .inl (g.2 0, 20, .inl (r_c_set 20 fro rc cy))), (rx, .inl (g.2 0, 20, .inl frx))] H := hP
    replace hD : va_D A [(ra, .inr (5, [.ref rt, .ref ro, .ref rx, .int rc])), (rt, .inl (g.2 0, 20, .inl (r_c_set 20 frt rc tt))), (ro, .inl (g.2 0, 20, .inl (r_c_set 20 fro rc cy))), (rx, .inl (g.2 0, 20, .inl frx))] := hD
    refine lv_aload_n hx hb dX5_add_35 rfl (lv_at hl 0 rfl) ?_
    refine va_get (D := g.1) (ci := 5) (v := .ref rx) (C := RX5) (T := TX5) (N := 4) hx hb hts hc_X5_add_X5 hown hK hP 0 rfl rfl 2 (by decide) (hts (.fieldLink RX5 18 "OilPush$Readings" "oil" "[I") (List.mem_of_getElem? (i := 4) rfl)) (fun _ h => h) rfl dX5_add_36 ?_
    refine lv_aload_n hx hb dX5_add_39 rfl (lv_at hl 0 rfl) ?_
    refine va_get (D := g.1) (ci := 5) (v := .int rc) (C := RX5) (T := TX5) (N := 4) hx hb hts hc_X5_add_X5 hown hK hP 0 rfl rfl 3 (by decide) (hts (.fieldLink RX5 21 "OilPush$Readings" "count" "I") (List.mem_of_getElem? (i := 1) rfl)) (fun _ h => h) rfl dX5_add_40 ?_
    refine lv_iload_n hx hb dX5_add_43 rfl (lv_at hl 3 rfl) ?_
    refine kV (rnN (host := "OilPush") (As := [.ref rx, .int rc, .int xx]) (rest := []) C (c_set l g rx 20 frx rc xx (by decide)) 3 gX5_add_X11_set_n25 rfl (nst_18 hN) (by decide +kernel) (by decide +kernel) (by decide +kernel) ⟨(Nat.le_of_ble_eq_true rfl), (Nat.le_of_ble_eq_true rfl)⟩ rfl hl.1 rfl (Nat.le_of_ble_eq_true rfl) dX5_add_44 ⟨(Nat.le_of_ble_eq_true rfl), (Nat.le_of_ble_eq_true rfl)⟩) (spM0 [false, false, false, true] hP hD rfl) hA hS (fun u7 H locs hw hP hD hS => ?_)
    replace hP : va_P g.1 vwCl [(ra, .inr (5, [.ref rt, .ref ro, .ref rx, .int rc])), (rt, .inl (g.2 0, 20, .inl (r_c_set 20 frt rc tt))), (ro, .inl (g.2 0, 20, .inl (r_c_set 20 fro rc cy))), (rx, .inl (g.2 0, 20, .inl (r_c_set 20 frx rc xx)))] H := hP
    replace hD : va_D A [(ra, .inr (5, [.ref rt, .ref ro, .ref rx, .int rc])), (rt, .inl (g.2 0, 20, .inl (r_c_set 20 frt rc tt))), (ro, .inl (g.2 0, 20, .inl (r_c_set 20 fro rc cy))), (rx, .inl (g.2 0, 20, .inl (r_c_set 20 frx rc xx)))] := hD
    refine lv_aload_n hx hb dX5_add_47 rfl (lv_at hl 0 rfl) ?_
    refine lv_dup hx hb dX5_add_48 rfl ?_
    refine va_get (D := g.1) (ci := 5) (v := .int rc) (C := RX5) (T := TX5) (N := 4) hx hb hts hc_X5_add_X5 hown hK hP 0 rfl rfl 3 (by decide) (hts (.fieldLink RX5 21 "OilPush$Readings" "count" "I") (List.mem_of_getElem? (i := 1) rfl)) (fun _ h => h) rfl dX5_add_49 ?_
    refine lv_iconst (v := 1) hx hb dX5_add_52 (by decide) ?_
    refine lv_iadd hx hb dX5_add_53 ?_
    refine va_put (D := g.1) (ci := 5) (v := .int (rc + 1)) (ty := .int) (C := RX5) (T := TX5) (N := 4) hx hb hts hc_X5_add_X5 tyX5 tyX5_ok nmX5 hown hK hP hD hS 0 rfl rfl 3 (by decide) (hts (.fieldLink RX5 21 "OilPush$Readings" "count" "I") (List.mem_of_getElem? (i := 1) rfl)) (fun _ h => h) rfl (by decide +kernel) rfl rfl (Nat.le_of_ble_eq_true rfl) dX5_add_54 (fun H locs hP hD hS => ?_)
    replace hP : va_P g.1 vwCl [(ra, .inr (5, [.ref rt, .ref ro, .ref rx, .int (rc + 1)])), (rt, .inl (g.2 0, 20, .inl (r_c_set 20 frt rc tt))), (ro, .inl (g.2 0, 20, .inl (r_c_set 20 fro rc cy))), (rx, .inl (g.2 0, 20, .inl (r_c_set 20 frx rc xx)))] H := hP
    replace hD : va_D A [(ra, .inr (5, [.ref rt, .ref ro, .ref rx, .int (rc + 1)])), (rt, .inl (g.2 0, 20, .inl (r_c_set 20 frt rc tt))), (ro, .inl (g.2 0, 20, .inl (r_c_set 20 fro rc cy))), (rx, .inl (g.2 0, 20, .inl (r_c_set 20 frx rc xx)))] := hD
    refine lv_iconst (v := 1) hx hb dX5_add_57 (by decide) ?_
    exact retZ C rfl hS ((rc + 1), (r_c_set 20 frt rc tt), (r_c_set 20 fro rc cy), (r_c_set 20 frx rc xx)) ⟨(Or.inr rfl), (TB_set hTB ht), (Or.inl ⟨c1, rfl, rfl⟩)⟩ hP hD (Nat.le_of_ble_eq_true rfl) (Nat.le_of_ble_eq_true rfl) dX5_add_58
  refine lv_iconst (v := 0) hx hb dX5_add_9 (by decide) ?_
  exact retZ C rfl hS (rc, frt, fro, frx) ⟨(Or.inl rfl), hTB, (Or.inr ⟨c1, rfl, rfl⟩)⟩ hP hD (Nat.le_of_ble_eq_true rfl) (Nat.le_of_ble_eq_true rfl) dX5_add_10
theorem hc_X11_reading_X11 : ∀ w ∈ wsX110, w ∈ wsX11_reading := fun w h => List.mem_cons_of_mem _ (List.mem_append_left _ (List.mem_append_left _ (List.mem_append_left _ (List.mem_append_left _ (List.mem_append_left _ (List.mem_append_right _ h))))))
theorem hc_X11_reading_X5 : ∀ w ∈ wsX50, w ∈ wsX11_reading := fun w h => List.mem_cons_of_mem _ (List.mem_append_left _ (List.mem_append_left _ (List.mem_append_left _ (List.mem_append_left _ (List.mem_append_right _ h)))))
set_option maxRecDepth 100000 in
set_option maxHeartbeats 4000000 in
theorem x_reading (l : Launch) (g : Gt) (h0 : Nat) (sha : Nat) (tra : Nat) (lf : Int32) (std : Int32) (tkd : Int32) (tck : Int32) (sa : Nat) (ea : Nat) (oa : Nat) (tsa : Nat) (usa : Nat) (vea : Nat) (lka : Nat) (ra : Nat) (pl : Nat) (gv : Int32) (lim : Int32) (ca : Nat) (cnt : Int32) (la : Nat) (fc : Nat → Option Nat) (rt : Nat) (ro : Nat) (rx : Nat) (rc : Int32) (frt : Nat → Int32) (fro : Nat → Int32) (frx : Nat → Int32) (tt : Int32) (cy : Int32) (xx : Int32) (cs : List Cy) (hcs : CS cs cnt fc) (hTB : TB frt) : Ctr l g yX11_reading wsX11_reading ({ frames := 2, cells := 0, slots := 0, locals := 45 } : Room) [.ref h0, .int tt, .int cy, .int xx] ([(h0, .inr (11, [.ref pl, .ref sa, .ref ea, .ref oa, .ref tsa, .ref usa, .ref vea, .ref lka, .ref ra, .ref sha, .ref tra, .int lf, .int std, .int tkd, .int tck])), (pl, .inr (4, [.int gv, .int lim, .ref ca, .int cnt, .ref la])), (ca, .inl (g.2 3, 6, .inr (.inr (.inr (.inr fc))))), (ra, .inr (5, [.ref rt, .ref ro, .ref rx, .int rc])), (rt, .inl (g.2 0, 20, .inl frt)), (ro, .inl (g.2 0, 20, .inl fro)), (rx, .inl (g.2 0, 20, .inl frx))] ++ cysW g cs) (fun A => QI g A (fun r (u : Int32 × (Nat → Int32) × (Nat → Int32) × (Nat → Int32)) => (TB u.2.1) ∧ (r = sr_r cnt rc (fF yA cs cy.toNatClampNeg * fF yS cs cy.toNatClampNeg) tt cy xx) ∧ (u.1 = sr_n cnt rc (fF yA cs cy.toNatClampNeg * fF yS cs cy.toNatClampNeg) tt cy xx)) (fun (u : Int32 × (Nat → Int32) × (Nat → Int32) × (Nat → Int32)) => ([(h0, .inr (11, [.ref pl, .ref sa, .ref ea, .ref oa, .ref tsa, .ref usa, .ref vea, .ref lka, .ref ra, .ref sha, .ref tra, .int lf, .int std, .int tkd, .int tck])), (pl, .inr (4, [.int gv, .int lim, .ref ca, .int cnt, .ref la])), (ca, .inl (g.2 3, 6, .inr (.inr (.inr (.inr fc))))), (ra, .inr (5, [.ref rt, .ref ro, .ref rx, .int u.1])), (rt, .inl (g.2 0, 20, .inl u.2.1)), (ro, .inl (g.2 0, 20, .inl u.2.2.1)), (rx, .inl (g.2 0, 20, .inl u.2.2.2))] ++ cysW g cs))) := by
  refine Ctr.of (cc := cX11_reading) (maxL := 5) (ret := (some .int)) (by decide) rfl (Nat.le_of_ble_eq_true rfl) ?_
  intro p e s m below meth c A ls H C hP hD hA hS hl
  obtain ⟨hx, hb, hr, hts, hown, hlocks, hml, hin, hKN⟩ := id C
  have hK := hKN.1
  have hN := hKN.2
  have F : CallFix p m c cX11_reading 5 s _ wsX11_reading yX11_reading.cls := ⟨hx, hb, hml, hown, hts⟩
  have hl : lv_has ls 5 [(0, .ref h0), (1, .int tt), (2, .int cy), (3, .int xx)] := hl
  refine lv_aload_n hx hb dX11_reading_0 rfl (lv_at hl 0 rfl) ?_
  refine va_get (D := g.1) (ci := 11) (v := .ref pl) (C := RX11) (T := TX11) (N := 15) hx hb hts hc_X11_reading_X11 hown hK hP 0 rfl rfl 0 (by decide) (hts (.fieldLink RX11 12 "OilPush" "plant" "LOilPush$Plant;") (List.mem_of_getElem? (i := 1) rfl)) (fun _ h => h) rfl dX11_reading_1 ?_
  refine lv_iload_n hx hb dX11_reading_4 rfl (lv_at hl 2 rfl) ?_
  refine kQ (rnV (As := [.int cy]) (rest := []) (Cn := RX4) C (p_at l g pl gv lim ca cnt la fc cy) 1 gX11_reading_X4_at rfl (by decide +kernel) ⟨(Nat.le_of_ble_eq_true rfl), (Nat.le_of_ble_eq_true rfl)⟩ hP (k := 1) (ci := 4) rfl rfl rfl rfl hl.1 rfl (Nat.le_of_ble_eq_true rfl) dX11_reading_5 ⟨(Nat.le_of_ble_eq_true rfl), (Nat.le_of_ble_eq_true rfl)⟩) (spM (X := [(h0, .inr (11, [.ref pl, .ref sa, .ref ea, .ref oa, .ref tsa, .ref usa, .ref vea, .ref lka, .ref ra, .ref sha, .ref tra, .int lf, .int std, .int tkd, .int tck])), (pl, .inr (4, [.int gv, .int lim, .ref ca, .int cnt, .ref la])), (ca, .inl (g.2 3, 6, .inr (.inr (.inr (.inr fc))))), (ra, .inr (5, [.ref rt, .ref ro, .ref rx, .int rc])), (rt, .inl (g.2 0, 20, .inl frt)), (ro, .inl (g.2 0, 20, .inl fro)), (rx, .inl (g.2 0, 20, .inl frx))]) (pl := cysW g cs) [false, true, true, false, false, false, false] hP hD rfl) hA hS (fun r1 u2 H locs hw hP hD hS => ?_)
  have f3 := hw
  replace hP : va_P g.1 vwCl ([(h0, .inr (11, [.ref pl, .ref sa, .ref ea, .ref oa, .ref tsa, .ref usa, .ref vea, .ref lka, .ref ra, .ref sha, .ref tra, .int lf, .int std, .int tkd, .int tck])), (pl, .inr (4, [.int gv, .int lim, .ref ca, .int cnt, .ref la])), (ca, .inl (g.2 3, 6, .inr (.inr (.inr (.inr fc))))), (ra, .inr (5, [.ref rt, .ref ro, .ref rx, .int rc])), (rt, .inl (g.2 0, 20, .inl frt)), (ro, .inl (g.2 0, 20, .inl fro)), (rx, .inl (g.2 0, 20, .inl frx))] ++ cysW g cs) H := hP
  replace hD : va_D A ([(h0, .inr (11, [.ref pl, .ref sa, .ref ea, .ref oa, .ref tsa, .ref usa, .ref vea, .ref lka, .ref ra, .ref sha, .ref tra, .int lf, .int std, .int tkd, .int tck])), (pl, .inr (4, [.int gv, .int lim, .ref ca, .int cnt, .ref la])), (ca, .inl (g.2 3, 6, .inr (.inr (.inr (.inr fc))))), (ra, .inr (5, [.ref rt, .ref ro, .ref rx, .int rc])), (rt, .inl (g.2 0, 20, .inl frt)), (ro, .inl (g.2 0, 20, .inl fro)), (rx, .inl (g.2 0, 20, .inl frx))] ++ cysW g cs) := hD
  rcases at_cases hcs f3 with ⟨hr9, hout⟩ | ⟨l1, y9, l2, hcse, hce, hr9⟩
  · subst hr9
    refine nx_v (v := .null) rfl ?_
    refine lv_astoreN (lv' := [(4, .null), (0, .ref h0), (1, .int tt), (2, .int cy), (3, .int xx)]) hx hb dX11_reading_8 hl (by decide) rfl (fun ls hl => ?_)
    refine lv_aloadN hx hb dX11_reading_10 (lv_at hl 0 rfl) ?_
    refine lv_ifnonnullN hx hb dX11_reading_12 ?_
    refine lv_iconst (v := -1) hx hb dX11_reading_15 (by decide) ?_
    exact retI C hS (rc, frt, fro, frx) ⟨hTB, (by simp only [sr_r, sr_n, if_pos hcs, if_pos hTB, if_pos f3, if_pos (pa_null hcs f3)]), (by simp only [sr_r, sr_n, if_pos hcs, if_pos hTB, if_pos f3, if_pos (pa_null hcs f3)])⟩ hP hD (Nat.le_of_ble_eq_true rfl) (Nat.le_of_ble_eq_true rfl) dX11_reading_16
  subst hr9
  obtain ⟨yb, yr, yk, ynum, yar, ysk, ylc, ycr, yfl, yrow⟩ := y9
  refine nx_v (v := .ref yb) rfl ?_
  replace hP := zk_csP hcse hP; replace hD := zk_csD hcse hD
  replace hP := cys_splitP hP
  replace hD := cys_splitD hD
  replace hP : va_P g.1 vwCl ([(h0, .inr (11, [.ref pl, .ref sa, .ref ea, .ref oa, .ref tsa, .ref usa, .ref vea, .ref lka, .ref ra, .ref sha, .ref tra, .int lf, .int std, .int tkd, .int tck])), (pl, .inr (4, [.int gv, .int lim, .ref ca, .int cnt, .ref la])), (ca, .inl (g.2 3, 6, .inr (.inr (.inr (.inr fc))))), (ra, .inr (5, [.ref rt, .ref ro, .ref rx, .int rc])), (rt, .inl (g.2 0, 20, .inl frt)), (ro, .inl (g.2 0, 20, .inl fro)), (rx, .inl (g.2 0, 20, .inl frx)), (yb, .inr (ckI yk, [.int ynum, .int yar, .int ysk, .ref yr, .int ylc, .int ycr, .int yfl])), (yr, .inl (g.2 0, 10, .inl yrow))] ++ (cysW g l1 ++ cysW g l2)) H := hP
  replace hD : va_D A ([(h0, .inr (11, [.ref pl, .ref sa, .ref ea, .ref oa, .ref tsa, .ref usa, .ref vea, .ref lka, .ref ra, .ref sha, .ref tra, .int lf, .int std, .int tkd, .int tck])), (pl, .inr (4, [.int gv, .int lim, .ref ca, .int cnt, .ref la])), (ca, .inl (g.2 3, 6, .inr (.inr (.inr (.inr fc))))), (ra, .inr (5, [.ref rt, .ref ro, .ref rx, .int rc])), (rt, .inl (g.2 0, 20, .inl frt)), (ro, .inl (g.2 0, 20, .inl fro)), (rx, .inl (g.2 0, 20, .inl frx)), (yb, .inr (ckI yk, [.int ynum, .int yar, .int ysk, .ref yr, .int ylc, .int ycr, .int yfl])), (yr, .inl (g.2 0, 10, .inl yrow))] ++ (cysW g l1 ++ cysW g l2)) := hD
  refine lv_astore (lv' := [(4, .ref yb), (0, .ref h0), (1, .int tt), (2, .int cy), (3, .int xx)]) hx hb dX11_reading_8 hl (by decide) rfl (fun ls hl => ?_)
  refine lv_aload hx hb dX11_reading_10 (lv_at hl 0 rfl) ?_
  refine lv_ifnonnull (tgt := 17) hx hb dX11_reading_12 (by decide) ?_
  refine lv_iload_n hx hb dX11_reading_17 rfl (lv_at hl 2 rfl) ?_
  refine lv_iconst (v := 0) hx hb dX11_reading_18 (by decide) ?_
  refine lv_sipush (v := 200) hx hb dX11_reading_19 (by decide) ?_
  refine pureIS (As := [.int tt, .int 0, .int 200]) (rest := []) F (c_within l tt 0 200) 3 gX11_reading_X11_within rfl (by decide +kernel) rfl rfl ⟨(Nat.le_of_ble_eq_true rfl), (Nat.le_of_ble_eq_true rfl)⟩ (Nat.le_of_ble_eq_true rfl) (Nat.le_of_ble_eq_true rfl) rfl hl.1 rfl (Nat.le_of_ble_eq_true rfl) dX11_reading_22 ?_
  refine lv_if_eq (tgt := 41) hx hb dX11_reading_25 (by decide) (fun c4 => ?_) (fun c4 => ?_)
  · refine lv_bipush (v := -2) hx hb dX11_reading_41 (by decide) ?_
    replace hP : va_P g.1 vwCl ([(h0, .inr (11, [.ref pl, .ref sa, .ref ea, .ref oa, .ref tsa, .ref usa, .ref vea, .ref lka, .ref ra, .ref sha, .ref tra, .int lf, .int std, .int tkd, .int tck])), (pl, .inr (4, [.int gv, .int lim, .ref ca, .int cnt, .ref la])), (ca, .inl (g.2 3, 6, .inr (.inr (.inr (.inr fc))))), (ra, .inr (5, [.ref rt, .ref ro, .ref rx, .int rc])), (rt, .inl (g.2 0, 20, .inl frt)), (ro, .inl (g.2 0, 20, .inl fro)), (rx, .inl (g.2 0, 20, .inl frx))] ++ cysW g (l1 ++ (yb, yr, yk, ynum, yar, ysk, ylc, ycr, yfl, yrow) :: l2)) H := cys_joinP (X := [(h0, .inr (11, [.ref pl, .ref sa, .ref ea, .ref oa, .ref tsa, .ref usa, .ref vea, .ref lka, .ref ra, .ref sha, .ref tra, .int lf, .int std, .int tkd, .int tck])), (pl, .inr (4, [.int gv, .int lim, .ref ca, .int cnt, .ref la])), (ca, .inl (g.2 3, 6, .inr (.inr (.inr (.inr fc))))), (ra, .inr (5, [.ref rt, .ref ro, .ref rx, .int rc])), (rt, .inl (g.2 0, 20, .inl frt)), (ro, .inl (g.2 0, 20, .inl fro)), (rx, .inl (g.2 0, 20, .inl frx))]) (y := (yb, yr, yk, ynum, yar, ysk, ylc, ycr, yfl, yrow)) (hP.part [0, 1, 2, 3, 4, 5, 6, 7, 8] rfl)
    replace hD : va_D A ([(h0, .inr (11, [.ref pl, .ref sa, .ref ea, .ref oa, .ref tsa, .ref usa, .ref vea, .ref lka, .ref ra, .ref sha, .ref tra, .int lf, .int std, .int tkd, .int tck])), (pl, .inr (4, [.int gv, .int lim, .ref ca, .int cnt, .ref la])), (ca, .inl (g.2 3, 6, .inr (.inr (.inr (.inr fc))))), (ra, .inr (5, [.ref rt, .ref ro, .ref rx, .int rc])), (rt, .inl (g.2 0, 20, .inl frt)), (ro, .inl (g.2 0, 20, .inl fro)), (rx, .inl (g.2 0, 20, .inl frx))] ++ cysW g (l1 ++ (yb, yr, yk, ynum, yar, ysk, ylc, ycr, yfl, yrow) :: l2)) := cys_joinD (X := [(h0, .inr (11, [.ref pl, .ref sa, .ref ea, .ref oa, .ref tsa, .ref usa, .ref vea, .ref lka, .ref ra, .ref sha, .ref tra, .int lf, .int std, .int tkd, .int tck])), (pl, .inr (4, [.int gv, .int lim, .ref ca, .int cnt, .ref la])), (ca, .inl (g.2 3, 6, .inr (.inr (.inr (.inr fc))))), (ra, .inr (5, [.ref rt, .ref ro, .ref rx, .int rc])), (rt, .inl (g.2 0, 20, .inl frt)), (ro, .inl (g.2 0, 20, .inl fro)), (rx, .inl (g.2 0, 20, .inl frx))]) (y := (yb, yr, yk, ynum, yar, ysk, ylc, ycr, yfl, yrow)) (hD.part [0, 1, 2, 3, 4, 5, 6, 7, 8] rfl rfl)
    replace hP := zk_csP hcse.symm hP; replace hD := zk_csD hcse.symm hD
    exact retI C hS (rc, frt, fro, frx) ⟨hTB, (by simp only [sr_r, sr_n, if_pos hcs, if_pos hTB, if_pos f3, if_neg (pa_some f3), if_pos c4, (show fF yA cs cy.toNatClampNeg = yar from fF_cy yA hcs hcse hce), (show fF yS cs cy.toNatClampNeg = ysk from fF_cy yS hcs hcse hce)]), (by simp only [sr_r, sr_n, if_pos hcs, if_pos hTB, if_pos f3, if_neg (pa_some f3), if_pos c4, (show fF yA cs cy.toNatClampNeg = yar from fF_cy yA hcs hcse hce), (show fF yS cs cy.toNatClampNeg = ysk from fF_cy yS hcs hcse hce)])⟩ hP hD (Nat.le_of_ble_eq_true rfl) (Nat.le_of_ble_eq_true rfl) dX11_reading_43
  refine lv_iload_n hx hb dX11_reading_28 rfl (lv_at hl 4 rfl) ?_
  refine lv_iconst (v := 0) hx hb dX11_reading_29 (by decide) ?_
  refine lv_aload hx hb dX11_reading_30 (lv_at hl 0 rfl) ?_
  refine kI (ck_elim (P := fun k9 => va_P g.1 vwCl ([(h0, .inr (11, [.ref pl, .ref sa, .ref ea, .ref oa, .ref tsa, .ref usa, .ref vea, .ref lka, .ref ra, .ref sha, .ref tra, .int lf, .int std, .int tkd, .int tck])), (pl, .inr (4, [.int gv, .int lim, .ref ca, .int cnt, .ref la])), (ca, .inl (g.2 3, 6, .inr (.inr (.inr (.inr fc))))), (ra, .inr (5, [.ref rt, .ref ro, .ref rx, .int rc])), (rt, .inl (g.2 0, 20, .inl frt)), (ro, .inl (g.2 0, 20, .inl fro)), (rx, .inl (g.2 0, 20, .inl frx)), (yb, .inr (ckI k9, [.int ynum, .int yar, .int ysk, .ref yr, .int ylc, .int ycr, .int yfl])), (yr, .inl (g.2 0, 10, .inl yrow))] ++ (cysW g l1 ++ cysW g l2)) H → KR p l e _ s m _ below meth c _ _ _ _ 0 0 32 ls [.ref yb, .int 0, .int xx] [.int 0, .int xx] g A [(yb, .inr (ckI k9, [.int ynum, .int yar, .int ysk, .ref yr, .int ylc, .int ycr, .int yfl]))] (fun A => QI g A (fun r (_ : Unit) => r = (yar * ysk)) (fun u : Unit => [(yb, .inr (ckI k9, [.int ynum, .int yar, .int ysk, .ref yr, .int ylc, .int ycr, .int yfl]))]))) (fun hP => (rnV (As := []) (rest := [.int 0, .int xx]) (Cn := RX0) C (y0_room l g yb yr ynum yar ysk ylc ycr yfl) 0 gX11_reading_X0_room rfl (by decide +kernel) ⟨(Nat.le_of_ble_eq_true rfl), (Nat.le_of_ble_eq_true rfl)⟩ hP (k := 7) (ci := 0) rfl rfl rfl rfl hl.1 rfl (Nat.le_of_ble_eq_true rfl) dX11_reading_32 ⟨(Nat.le_of_ble_eq_true rfl), (Nat.le_of_ble_eq_true rfl)⟩)) (fun hP => (rnU (As := []) (rest := [.int 0, .int xx]) (Cn := RX2) C (y2_room l g yb yr ynum yar ysk ylc ycr yfl) 0 gX11_reading_X0_room_u145X2 rfl rfl (by decide +kernel) ⟨(Nat.le_of_ble_eq_true rfl), (Nat.le_of_ble_eq_true rfl)⟩ hP (k := 7) (ci := 2) rfl rfl rfl rfl hl.1 rfl (Nat.le_of_ble_eq_true rfl) dX11_reading_32 ⟨(Nat.le_of_ble_eq_true rfl), (Nat.le_of_ble_eq_true rfl)⟩)) (fun hP => (rnU (As := []) (rest := [.int 0, .int xx]) (Cn := RX10) C (y10_room l g yb yr ynum yar ysk ylc ycr yfl) 0 gX11_reading_X0_room_u145X10 rfl rfl (by decide +kernel) ⟨(Nat.le_of_ble_eq_true rfl), (Nat.le_of_ble_eq_true rfl)⟩ hP (k := 7) (ci := 10) rfl rfl rfl rfl hl.1 rfl (Nat.le_of_ble_eq_true rfl) dX11_reading_32 ⟨(Nat.le_of_ble_eq_true rfl), (Nat.le_of_ble_eq_true rfl)⟩)) yk hP) (spM (X := [(h0, .inr (11, [.ref pl, .ref sa, .ref ea, .ref oa, .ref tsa, .ref usa, .ref vea, .ref lka, .ref ra, .ref sha, .ref tra, .int lf, .int std, .int tkd, .int tck])), (pl, .inr (4, [.int gv, .int lim, .ref ca, .int cnt, .ref la])), (ca, .inl (g.2 3, 6, .inr (.inr (.inr (.inr fc))))), (ra, .inr (5, [.ref rt, .ref ro, .ref rx, .int rc])), (rt, .inl (g.2 0, 20, .inl frt)), (ro, .inl (g.2 0, 20, .inl fro)), (rx, .inl (g.2 0, 20, .inl frx)), (yb, .inr (ckI yk, [.int ynum, .int yar, .int ysk, .ref yr, .int ylc, .int ycr, .int yfl])), (yr, .inl (g.2 0, 10, .inl yrow))]) (pl := (cysW g l1 ++ cysW g l2)) [false, false, false, false, false, false, false, true, false] hP hD rfl) hA hS (fun r6 u5 H locs hw hP hD hS => ?_)
  replace hP : va_P g.1 vwCl ([(h0, .inr (11, [.ref pl, .ref sa, .ref ea, .ref oa, .ref tsa, .ref usa, .ref vea, .ref lka, .ref ra, .ref sha, .ref tra, .int lf, .int std, .int tkd, .int tck])), (pl, .inr (4, [.int gv, .int lim, .ref ca, .int cnt, .ref la])), (ca, .inl (g.2 3, 6, .inr (.inr (.inr (.inr fc))))), (ra, .inr (5, [.ref rt, .ref ro, .ref rx, .int rc])), (rt, .inl (g.2 0, 20, .inl frt)), (ro, .inl (g.2 0, 20, .inl fro)), (rx, .inl (g.2 0, 20, .inl frx)), (yb, .inr (ckI yk, [.int ynum, .int yar, .int ysk, .ref yr, .int ylc, .int ycr, .int yfl])), (yr, .inl (g.2 0, 10, .inl yrow))] ++ (cysW g l1 ++ cysW g l2)) H := hP
  replace hD : va_D A ([(h0, .inr (11, [.ref pl, .ref sa, .ref ea, .ref oa, .ref tsa, .ref usa, .ref vea, .ref lka, .ref ra, .ref sha, .ref tra, .int lf, .int std, .int tkd, .int tck])), (pl, .inr (4, [.int gv, .int lim, .ref ca, .int cnt, .ref la])), (ca, .inl (g.2 3, 6, .inr (.inr (.inr (.inr fc))))), (ra, .inr (5, [.ref rt, .ref ro, .ref rx, .int rc])), (rt, .inl (g.2 0, 20, .inl frt)), (ro, .inl (g.2 0, 20, .inl fro)), (rx, .inl (g.2 0, 20, .inl frx)), (yb, .inr (ckI yk, [.int ynum, .int yar, .int ysk, .ref yr, .int ylc, .int ycr, .int yfl])), (yr, .inl (g.2 0, 10, .inl yrow))] ++ (cysW g l1 ++ cysW g l2)) := hD
  refine nx_i (v := (yar * ysk)) hw ?_
  refine pureIS (As := [.int xx, .int 0, .int (yar * ysk)]) (rest := []) F (c_within l xx 0 (yar * ysk)) 3 gX11_reading_X11_within rfl (by decide +kernel) rfl rfl ⟨(Nat.le_of_ble_eq_true rfl), (Nat.le_of_ble_eq_true rfl)⟩ (Nat.le_of_ble_eq_true rfl) (Nat.le_of_ble_eq_true rfl) rfl hl.1 rfl (Nat.le_of_ble_eq_true rfl) dX11_reading_35 ?_
  refine lv_if_ne (tgt := 44) hx hb dX11_reading_38 (by decide) (fun c7 => ?_) (fun c7 => ?_)
  · refine lv_aload_n hx hb dX11_reading_44 rfl (lv_at hl 1 rfl) ?_
    refine va_get (D := g.1) (ci := 11) (v := .ref ra) (C := RX11) (T := TX11) (N := 15) hx hb hts hc_X11_reading_X11 hown hK hP 0 rfl rfl 8 (by decide) (hts (.fieldLink RX11 55 "OilPush" "readings" "LOilPush$Readings;") (List.mem_of_getElem? (i := 2) rfl)) (fun _ h => h) rfl dX11_reading_45 ?_
    refine lv_iload_n hx hb dX11_reading_48 rfl (lv_at hl 2 rfl) ?_
    refine lv_iload_n hx hb dX11_reading_49 rfl (lv_at hl 3 rfl) ?_
    refine lv_iload_n hx hb dX11_reading_50 rfl (lv_at hl 4 rfl) ?_
    refine kI (rnV (As := [.int tt, .int cy, .int xx]) (rest := []) (Cn := RX5) C (r_add l g ra rt ro rx rc frt fro frx tt cy xx hTB (within_200 c4)) 3 gX11_reading_X5_add rfl (by decide +kernel) ⟨(Nat.le_of_ble_eq_true rfl), (Nat.le_of_ble_eq_true rfl)⟩ hP (k := 3) (ci := 5) rfl rfl rfl rfl hl.1 rfl (Nat.le_of_ble_eq_true rfl) dX11_reading_51 ⟨(Nat.le_of_ble_eq_true rfl), (Nat.le_of_ble_eq_true rfl)⟩) (spM (X := [(h0, .inr (11, [.ref pl, .ref sa, .ref ea, .ref oa, .ref tsa, .ref usa, .ref vea, .ref lka, .ref ra, .ref sha, .ref tra, .int lf, .int std, .int tkd, .int tck])), (pl, .inr (4, [.int gv, .int lim, .ref ca, .int cnt, .ref la])), (ca, .inl (g.2 3, 6, .inr (.inr (.inr (.inr fc))))), (ra, .inr (5, [.ref rt, .ref ro, .ref rx, .int rc])), (rt, .inl (g.2 0, 20, .inl frt)), (ro, .inl (g.2 0, 20, .inl fro)), (rx, .inl (g.2 0, 20, .inl frx)), (yb, .inr (ckI yk, [.int ynum, .int yar, .int ysk, .ref yr, .int ylc, .int ycr, .int yfl])), (yr, .inl (g.2 0, 10, .inl yrow))]) (pl := (cysW g l1 ++ cysW g l2)) [false, false, false, true, true, true, true, false, false] hP hD rfl) hA hS (fun r8 u9 H locs hw hP hD hS => ?_)
    obtain ⟨x10, x11, x12, x13⟩ := u9
    obtain ⟨f14, f15, f16⟩ := hw
    replace hP : va_P g.1 vwCl ([(h0, .inr (11, [.ref pl, .ref sa, .ref ea, .ref oa, .ref tsa, .ref usa, .ref vea, .ref lka, .ref ra, .ref sha, .ref tra, .int lf, .int std, .int tkd, .int tck])), (pl, .inr (4, [.int gv, .int lim, .ref ca, .int cnt, .ref la])), (ca, .inl (g.2 3, 6, .inr (.inr (.inr (.inr fc))))), (ra, .inr (5, [.ref rt, .ref ro, .ref rx, .int x10])), (rt, .inl (g.2 0, 20, .inl x11)), (ro, .inl (g.2 0, 20, .inl x12)), (rx, .inl (g.2 0, 20, .inl x13)), (yb, .inr (ckI yk, [.int ynum, .int yar, .int ysk, .ref yr, .int ylc, .int ycr, .int yfl])), (yr, .inl (g.2 0, 10, .inl yrow))] ++ (cysW g l1 ++ cysW g l2)) H := hP
    replace hD : va_D A ([(h0, .inr (11, [.ref pl, .ref sa, .ref ea, .ref oa, .ref tsa, .ref usa, .ref vea, .ref lka, .ref ra, .ref sha, .ref tra, .int lf, .int std, .int tkd, .int tck])), (pl, .inr (4, [.int gv, .int lim, .ref ca, .int cnt, .ref la])), (ca, .inl (g.2 3, 6, .inr (.inr (.inr (.inr fc))))), (ra, .inr (5, [.ref rt, .ref ro, .ref rx, .int x10])), (rt, .inl (g.2 0, 20, .inl x11)), (ro, .inl (g.2 0, 20, .inl x12)), (rx, .inl (g.2 0, 20, .inl x13)), (yb, .inr (ckI yk, [.int ynum, .int yar, .int ysk, .ref yr, .int ylc, .int ycr, .int yfl])), (yr, .inl (g.2 0, 10, .inl yrow))] ++ (cysW g l1 ++ cysW g l2)) := hD
    replace f14 : r8 = 0 ∨ r8 = 1 := f14
    replace f15 : TB x11 := f15
    replace f16 : RADD rc r8 x10 := f16
    refine lv_if_eq (tgt := 67) hx hb dX11_reading_54 (by decide) (fun c17 => ?_) (fun c17 => ?_)
    · refine lv_bipush (v := -4) hx hb dX11_reading_67 (by decide) ?_
      replace hP : va_P g.1 vwCl ([(h0, .inr (11, [.ref pl, .ref sa, .ref ea, .ref oa, .ref tsa, .ref usa, .ref vea, .ref lka, .ref ra, .ref sha, .ref tra, .int lf, .int std, .int tkd, .int tck])), (pl, .inr (4, [.int gv, .int lim, .ref ca, .int cnt, .ref la])), (ca, .inl (g.2 3, 6, .inr (.inr (.inr (.inr fc))))), (ra, .inr (5, [.ref rt, .ref ro, .ref rx, .int x10])), (rt, .inl (g.2 0, 20, .inl x11)), (ro, .inl (g.2 0, 20, .inl x12)), (rx, .inl (g.2 0, 20, .inl x13))] ++ cysW g (l1 ++ (yb, yr, yk, ynum, yar, ysk, ylc, ycr, yfl, yrow) :: l2)) H := cys_joinP (X := [(h0, .inr (11, [.ref pl, .ref sa, .ref ea, .ref oa, .ref tsa, .ref usa, .ref vea, .ref lka, .ref ra, .ref sha, .ref tra, .int lf, .int std, .int tkd, .int tck])), (pl, .inr (4, [.int gv, .int lim, .ref ca, .int cnt, .ref la])), (ca, .inl (g.2 3, 6, .inr (.inr (.inr (.inr fc))))), (ra, .inr (5, [.ref rt, .ref ro, .ref rx, .int x10])), (rt, .inl (g.2 0, 20, .inl x11)), (ro, .inl (g.2 0, 20, .inl x12)), (rx, .inl (g.2 0, 20, .inl x13))]) (y := (yb, yr, yk, ynum, yar, ysk, ylc, ycr, yfl, yrow)) (hP.part [0, 1, 2, 3, 4, 5, 6, 7, 8] rfl)
      replace hD : va_D A ([(h0, .inr (11, [.ref pl, .ref sa, .ref ea, .ref oa, .ref tsa, .ref usa, .ref vea, .ref lka, .ref ra, .ref sha, .ref tra, .int lf, .int std, .int tkd, .int tck])), (pl, .inr (4, [.int gv, .int lim, .ref ca, .int cnt, .ref la])), (ca, .inl (g.2 3, 6, .inr (.inr (.inr (.inr fc))))), (ra, .inr (5, [.ref rt, .ref ro, .ref rx, .int x10])), (rt, .inl (g.2 0, 20, .inl x11)), (ro, .inl (g.2 0, 20, .inl x12)), (rx, .inl (g.2 0, 20, .inl x13))] ++ cysW g (l1 ++ (yb, yr, yk, ynum, yar, ysk, ylc, ycr, yfl, yrow) :: l2)) := cys_joinD (X := [(h0, .inr (11, [.ref pl, .ref sa, .ref ea, .ref oa, .ref tsa, .ref usa, .ref vea, .ref lka, .ref ra, .ref sha, .ref tra, .int lf, .int std, .int tkd, .int tck])), (pl, .inr (4, [.int gv, .int lim, .ref ca, .int cnt, .ref la])), (ca, .inl (g.2 3, 6, .inr (.inr (.inr (.inr fc))))), (ra, .inr (5, [.ref rt, .ref ro, .ref rx, .int x10])), (rt, .inl (g.2 0, 20, .inl x11)), (ro, .inl (g.2 0, 20, .inl x12)), (rx, .inl (g.2 0, 20, .inl x13))]) (y := (yb, yr, yk, ynum, yar, ysk, ylc, ycr, yfl, yrow)) (hD.part [0, 1, 2, 3, 4, 5, 6, 7, 8] rfl rfl)
      replace hP := zk_csP hcse.symm hP; replace hD := zk_csD hcse.symm hD
      exact retI C hS (x10, x11, x12, x13) ⟨f15, (by simp only [sr_r, sr_n, if_pos hcs, if_pos hTB, if_pos f3, if_neg (pa_some f3), if_neg c4, if_neg c7, if_pos f14, if_pos f15, if_pos f16, if_neg (radd_f f16 c17).1, (radd_f f16 c17).2, if_pos c17, (show fF yA cs cy.toNatClampNeg = yar from fF_cy yA hcs hcse hce), (show fF yS cs cy.toNatClampNeg = ysk from fF_cy yS hcs hcse hce)]), (by simp only [sr_r, sr_n, if_pos hcs, if_pos hTB, if_pos f3, if_neg (pa_some f3), if_neg c4, if_neg c7, if_pos f14, if_pos f15, if_pos f16, if_neg (radd_f f16 c17).1, (radd_f f16 c17).2, if_pos c17, (show fF yA cs cy.toNatClampNeg = yar from fF_cy yA hcs hcse hce), (show fF yS cs cy.toNatClampNeg = ysk from fF_cy yS hcs hcse hce)])⟩ hP hD (Nat.le_of_ble_eq_true rfl) (Nat.le_of_ble_eq_true rfl) dX11_reading_69
    refine lv_aload_n hx hb dX11_reading_57 rfl (lv_at hl 1 rfl) ?_
    refine va_get (D := g.1) (ci := 11) (v := .ref ra) (C := RX11) (T := TX11) (N := 15) hx hb hts hc_X11_reading_X11 hown hK hP 0 rfl rfl 8 (by decide) (hts (.fieldLink RX11 55 "OilPush" "readings" "LOilPush$Readings;") (List.mem_of_getElem? (i := 2) rfl)) (fun _ h => h) rfl dX11_reading_58 ?_
    refine va_get (D := g.1) (ci := 5) (v := .int x10) (C := RX5) (T := TX5) (N := 4) hx hb hts hc_X11_reading_X5 hown hK hP 3 rfl rfl 3 (by decide) (hts (.fieldLink RX11 256 "OilPush$Readings" "count" "I") (List.mem_of_getElem? (i := 3) rfl)) (fun _ h => h) rfl dX11_reading_61 ?_
    refine lv_goto (tgt := 69) hx hb dX11_reading_64 (by decide) ?_
    replace hP : va_P g.1 vwCl ([(h0, .inr (11, [.ref pl, .ref sa, .ref ea, .ref oa, .ref tsa, .ref usa, .ref vea, .ref lka, .ref ra, .ref sha, .ref tra, .int lf, .int std, .int tkd, .int tck])), (pl, .inr (4, [.int gv, .int lim, .ref ca, .int cnt, .ref la])), (ca, .inl (g.2 3, 6, .inr (.inr (.inr (.inr fc))))), (ra, .inr (5, [.ref rt, .ref ro, .ref rx, .int x10])), (rt, .inl (g.2 0, 20, .inl x11)), (ro, .inl (g.2 0, 20, .inl x12)), (rx, .inl (g.2 0, 20, .inl x13))] ++ cysW g (l1 ++ (yb, yr, yk, ynum, yar, ysk, ylc, ycr, yfl, yrow) :: l2)) H := cys_joinP (X := [(h0, .inr (11, [.ref pl, .ref sa, .ref ea, .ref oa, .ref tsa, .ref usa, .ref vea, .ref lka, .ref ra, .ref sha, .ref tra, .int lf, .int std, .int tkd, .int tck])), (pl, .inr (4, [.int gv, .int lim, .ref ca, .int cnt, .ref la])), (ca, .inl (g.2 3, 6, .inr (.inr (.inr (.inr fc))))), (ra, .inr (5, [.ref rt, .ref ro, .ref rx, .int x10])), (rt, .inl (g.2 0, 20, .inl x11)), (ro, .inl (g.2 0, 20, .inl x12)), (rx, .inl (g.2 0, 20, .inl x13))]) (y := (yb, yr, yk, ynum, yar, ysk, ylc, ycr, yfl, yrow)) (hP.part [0, 1, 2, 3, 4, 5, 6, 7, 8] rfl)
    replace hD : va_D A ([(h0, .inr (11, [.ref pl, .ref sa, .ref ea, .ref oa, .ref tsa, .ref usa, .ref vea, .ref lka, .ref ra, .ref sha, .ref tra, .int lf, .int std, .int tkd, .int tck])), (pl, .inr (4, [.int gv, .int lim, .ref ca, .int cnt, .ref la])), (ca, .inl (g.2 3, 6, .inr (.inr (.inr (.inr fc))))), (ra, .inr (5, [.ref rt, .ref ro, .ref rx, .int x10])), (rt, .inl (g.2 0, 20, .inl x11)), (ro, .inl (g.2 0, 20, .inl x12)), (rx, .inl (g.2 0, 20, .inl x13))] ++ cysW g (l1 ++ (yb, yr, yk, ynum, yar, ysk, ylc, ycr, yfl, yrow) :: l2)) := cys_joinD (X := [(h0, .inr (11, [.ref pl, .ref sa, .ref ea, .ref oa, .ref tsa, .ref usa, .ref vea, .ref lka, .ref ra, .ref sha, .ref tra, .int lf, .int std, .int tkd, .int tck])), (pl, .inr (4, [.int gv, .int lim, .ref ca, .int cnt, .ref la])), (ca, .inl (g.2 3, 6, .inr (.inr (.inr (.inr fc))))), (ra, .inr (5, [.ref rt, .ref ro, .ref rx, .int x10])), (rt, .inl (g.2 0, 20, .inl x11)), (ro, .inl (g.2 0, 20, .inl x12)), (rx, .inl (g.2 0, 20, .inl x13))]) (y := (yb, yr, yk, ynum, yar, ysk, ylc, ycr, yfl, yrow)) (hD.part [0, 1, 2, 3, 4, 5, 6, 7, 8] rfl rfl)
    replace hP := zk_csP hcse.symm hP; replace hD := zk_csD hcse.symm hD
    exact retI C hS (x10, x11, x12, x13) ⟨f15, (by simp only [sr_r, sr_n, if_pos hcs, if_pos hTB, if_pos f3, if_neg (pa_some f3), if_neg c4, if_neg c7, if_pos f14, if_pos f15, if_pos f16, if_pos (radd_t f16 c17).1, (radd_t f16 c17).2, if_neg c17, (show fF yA cs cy.toNatClampNeg = yar from fF_cy yA hcs hcse hce), (show fF yS cs cy.toNatClampNeg = ysk from fF_cy yS hcs hcse hce)]), (by simp only [sr_r, sr_n, if_pos hcs, if_pos hTB, if_pos f3, if_neg (pa_some f3), if_neg c4, if_neg c7, if_pos f14, if_pos f15, if_pos f16, if_pos (radd_t f16 c17).1, (radd_t f16 c17).2, if_neg c17, (show fF yA cs cy.toNatClampNeg = yar from fF_cy yA hcs hcse hce), (show fF yS cs cy.toNatClampNeg = ysk from fF_cy yS hcs hcse hce)])⟩ hP hD (Nat.le_of_ble_eq_true rfl) (Nat.le_of_ble_eq_true rfl) dX11_reading_69
  refine lv_bipush (v := -2) hx hb dX11_reading_41 (by decide) ?_
  replace hP : va_P g.1 vwCl ([(h0, .inr (11, [.ref pl, .ref sa, .ref ea, .ref oa, .ref tsa, .ref usa, .ref vea, .ref lka, .ref ra, .ref sha, .ref tra, .int lf, .int std, .int tkd, .int tck])), (pl, .inr (4, [.int gv, .int lim, .ref ca, .int cnt, .ref la])), (ca, .inl (g.2 3, 6, .inr (.inr (.inr (.inr fc))))), (ra, .inr (5, [.ref rt, .ref ro, .ref rx, .int rc])), (rt, .inl (g.2 0, 20, .inl frt)), (ro, .inl (g.2 0, 20, .inl fro)), (rx, .inl (g.2 0, 20, .inl frx))] ++ cysW g (l1 ++ (yb, yr, yk, ynum, yar, ysk, ylc, ycr, yfl, yrow) :: l2)) H := cys_joinP (X := [(h0, .inr (11, [.ref pl, .ref sa, .ref ea, .ref oa, .ref tsa, .ref usa, .ref vea, .ref lka, .ref ra, .ref sha, .ref tra, .int lf, .int std, .int tkd, .int tck])), (pl, .inr (4, [.int gv, .int lim, .ref ca, .int cnt, .ref la])), (ca, .inl (g.2 3, 6, .inr (.inr (.inr (.inr fc))))), (ra, .inr (5, [.ref rt, .ref ro, .ref rx, .int rc])), (rt, .inl (g.2 0, 20, .inl frt)), (ro, .inl (g.2 0, 20, .inl fro)), (rx, .inl (g.2 0, 20, .inl frx))]) (y := (yb, yr, yk, ynum, yar, ysk, ylc, ycr, yfl, yrow)) (hP.part [0, 1, 2, 3, 4, 5, 6, 7, 8] rfl)
  replace hD : va_D A ([(h0, .inr (11, [.ref pl, .ref sa, .ref ea, .ref oa, .ref tsa, .ref usa, .ref vea, .ref lka, .ref ra, .ref sha, .ref tra, .int lf, .int std, .int tkd, .int tck])), (pl, .inr (4, [.int gv, .int lim, .ref ca, .int cnt, .ref la])), (ca, .inl (g.2 3, 6, .inr (.inr (.inr (.inr fc))))), (ra, .inr (5, [.ref rt, .ref ro, .ref rx, .int rc])), (rt, .inl (g.2 0, 20, .inl frt)), (ro, .inl (g.2 0, 20, .inl fro)), (rx, .inl (g.2 0, 20, .inl frx))] ++ cysW g (l1 ++ (yb, yr, yk, ynum, yar, ysk, ylc, ycr, yfl, yrow) :: l2)) := cys_joinD (X := [(h0, .inr (11, [.ref pl, .ref sa, .ref ea, .ref oa, .ref tsa, .ref usa, .ref vea, .ref lka, .ref ra, .ref sha, .ref tra, .int lf, .int std, .int tkd, .int tck])), (pl, .inr (4, [.int gv, .int lim, .ref ca, .int cnt, .ref la])), (ca, .inl (g.2 3, 6, .inr (.inr (.inr (.inr fc))))), (ra, .inr (5, [.ref rt, .ref ro, .ref rx, .int rc])), (rt, .inl (g.2 0, 20, .inl frt)), (ro, .inl (g.2 0, 20, .inl fro)), (rx, .inl (g.2 0, 20, .inl frx))]) (y := (yb, yr, yk, ynum, yar, ysk, ylc, ycr, yfl, yrow)) (hD.part [0, 1, 2, 3, 4, 5, 6, 7, 8] rfl rfl)
  replace hP := zk_csP hcse.symm hP; replace hD := zk_csD hcse.symm hD
  exact retI C hS (rc, frt, fro, frx) ⟨hTB, (by simp only [sr_r, sr_n, if_pos hcs, if_pos hTB, if_pos f3, if_neg (pa_some f3), if_neg c4, if_pos c7, (show fF yA cs cy.toNatClampNeg = yar from fF_cy yA hcs hcse hce), (show fF yS cs cy.toNatClampNeg = ysk from fF_cy yS hcs hcse hce)]), (by simp only [sr_r, sr_n, if_pos hcs, if_pos hTB, if_pos f3, if_neg (pa_some f3), if_neg c4, if_pos c7, (show fF yA cs cy.toNatClampNeg = yar from fF_cy yA hcs hcse hce), (show fF yS cs cy.toNatClampNeg = ysk from fF_cy yS hcs hcse hce)])⟩ hP hD (Nat.le_of_ble_eq_true rfl) (Nat.le_of_ble_eq_true rfl) dX11_reading_43
theorem hc_X11_start_X11 : ∀ w ∈ wsX110, w ∈ wsX11_start := fun w h => List.mem_cons_of_mem _ (List.mem_append_left _ (List.mem_append_left _ (List.mem_append_right _ h)))
set_option maxRecDepth 100000 in
set_option maxHeartbeats 4000000 in
theorem x_start (l : Launch) (g : Gt) (h0 : Nat) (sha : Nat) (tra : Nat) (lf : Int32) (std : Int32) (tkd : Int32) (tck : Int32) (sa : Nat) (ea : Nat) (oa : Nat) (tsa : Nat) (usa : Nat) (vea : Nat) (lka : Nat) (ra : Nat) (pl : Nat) (so : Nat) (sv : Nat) (sb : Nat) (ss : Nat) (wt : Int32) (fo : Nat → Int32) (fv : Nat → Int32) (fb : Nat → Int32) (cap : Int32) (fst : Int32) (stf : Int32) (sol : Int32) (tsa : Nat) (tso : Nat) (tsv : Nat) (tsb : Nat) (tss : Nat) (twt : Int32) (tfo : Nat → Int32) (tfv : Nat → Int32) (tfb : Nat → Int32) (tcap : Int32) (tfst : Int32) (tstf : Int32) (tsol : Int32)  : Ctr l g yX11_start wsX11_start ({ frames := 2, cells := 0, slots := 0, locals := 44 } : Room) [.ref h0] [(h0, .inr (11, [.ref pl, .ref sa, .ref ea, .ref oa, .ref tsa, .ref usa, .ref vea, .ref lka, .ref ra, .ref sha, .ref tra, .int lf, .int std, .int tkd, .int tck])), (sa, .inr (7, [.ref so, .ref sv, .ref sb, .ref ss, .int wt])), (so, .inl (g.2 0, 6, .inl fo)), (sv, .inl (g.2 0, 6, .inl fv)), (sb, .inl (g.2 0, 6, .inl fb)), (ss, .inr (8, [.int cap, .int fst, .int stf, .int sol])), (tsa, .inr (7, [.ref tso, .ref tsv, .ref tsb, .ref tss, .int twt])), (tso, .inl (g.2 0, 6, .inl tfo)), (tsv, .inl (g.2 0, 6, .inl tfv)), (tsb, .inl (g.2 0, 6, .inl tfb)), (tss, .inr (8, [.int tcap, .int tfst, .int tstf, .int tsol]))] (fun A => QI g A (fun r (u : Int32 × Int32 × Int32 × (Nat → Int32) × (Nat → Int32) × (Nat → Int32) × Int32 × Int32 × Int32 × Int32) => (r = 1) ∧ (u.2.1 = 0)) (fun (u : Int32 × Int32 × Int32 × (Nat → Int32) × (Nat → Int32) × (Nat → Int32) × Int32 × Int32 × Int32 × Int32) => [(h0, .inr (11, [.ref pl, .ref sa, .ref ea, .ref oa, .ref tsa, .ref usa, .ref vea, .ref lka, .ref ra, .ref sha, .ref tra, .int lf, .int u.1, .int tkd, .int u.2.1])), (sa, .inr (7, [.ref so, .ref sv, .ref sb, .ref ss, .int wt])), (so, .inl (g.2 0, 6, .inl fo)), (sv, .inl (g.2 0, 6, .inl fv)), (sb, .inl (g.2 0, 6, .inl fb)), (ss, .inr (8, [.int cap, .int fst, .int stf, .int sol])), (tsa, .inr (7, [.ref tso, .ref tsv, .ref tsb, .ref tss, .int u.2.2.1])), (tso, .inl (g.2 0, 6, .inl u.2.2.2.1)), (tsv, .inl (g.2 0, 6, .inl u.2.2.2.2.1)), (tsb, .inl (g.2 0, 6, .inl u.2.2.2.2.2.1)), (tss, .inr (8, [.int u.2.2.2.2.2.2.1, .int u.2.2.2.2.2.2.2.1, .int u.2.2.2.2.2.2.2.2.1, .int u.2.2.2.2.2.2.2.2.2]))])) := by
  refine Ctr.of (cc := cX11_start) (maxL := 1) (ret := (some .int)) (by decide) rfl (Nat.le_of_ble_eq_true rfl) ?_
  intro p e s m below meth c A ls H C hP hD hA hS hl
  obtain ⟨hx, hb, hr, hts, hown, hlocks, hml, hin, hKN⟩ := id C
  have hK := hKN.1
  have hN := hKN.2
  have F : CallFix p m c cX11_start 1 s _ wsX11_start yX11_start.cls := ⟨hx, hb, hml, hown, hts⟩
  have hl : lv_has ls 1 [(0, .ref h0)] := hl
  refine lv_aload_n hx hb dX11_start_0 rfl (lv_at hl 0 rfl) ?_
  refine va_get (D := g.1) (ci := 11) (v := .ref tsa) (C := RX11) (T := TX11) (N := 15) hx hb hts hc_X11_start_X11 hown hK hP 0 rfl rfl 4 (by decide) (hts (.fieldLink RX11 39 "OilPush" "atStart" "LOilPush$State;") (List.mem_of_getElem? (i := 1) rfl)) (fun _ h => h) rfl dX11_start_1 ?_
  refine lv_aload_n hx hb dX11_start_4 rfl (lv_at hl 0 rfl) ?_
  refine va_get (D := g.1) (ci := 11) (v := .ref sa) (C := RX11) (T := TX11) (N := 15) hx hb hts hc_X11_start_X11 hown hK hP 0 rfl rfl 1 (by decide) (hts (.fieldLink RX11 21 "OilPush" "now" "LOilPush$State;") (List.mem_of_getElem? (i := 2) rfl)) (fun _ h => h) rfl dX11_start_5 ?_
  refine kV (rnV (As := [.ref sa]) (rest := []) (Cn := RX7) C (t_become l g tsa tso tsv tsb tss twt tfo tfv tfb tcap tfst tstf tsol sa so sv sb ss wt fo fv fb cap fst stf sol) 1 gX11_start_X7_become rfl (by decide +kernel) ⟨(Nat.le_of_ble_eq_true rfl), (Nat.le_of_ble_eq_true rfl)⟩ hP (k := 6) (ci := 7) rfl rfl rfl rfl hl.1 rfl (Nat.le_of_ble_eq_true rfl) dX11_start_8 ⟨(Nat.le_of_ble_eq_true rfl), (Nat.le_of_ble_eq_true rfl)⟩) (spA (wr := [(h0, .inr (11, [.ref pl, .ref sa, .ref ea, .ref oa, .ref tsa, .ref usa, .ref vea, .ref lka, .ref ra, .ref sha, .ref tra, .int lf, .int std, .int tkd, .int tck]))]) hP hD [6, 7, 8, 9, 10, 1, 2, 3, 4, 5] [0] rfl rfl rfl rfl (by decide)) hA hS (fun u2 H locs hw hP hD hS => ?_)
  obtain ⟨x3, x4, x5, x6, x7, x8, x9, x10⟩ := u2
  replace hP : va_P g.1 vwCl [(h0, .inr (11, [.ref pl, .ref sa, .ref ea, .ref oa, .ref tsa, .ref usa, .ref vea, .ref lka, .ref ra, .ref sha, .ref tra, .int lf, .int std, .int tkd, .int tck])), (tsa, .inr (7, [.ref tso, .ref tsv, .ref tsb, .ref tss, .int x3])), (tso, .inl (g.2 0, 6, .inl x4)), (tsv, .inl (g.2 0, 6, .inl x5)), (tsb, .inl (g.2 0, 6, .inl x6)), (tss, .inr (8, [.int x7, .int x8, .int x9, .int x10])), (sa, .inr (7, [.ref so, .ref sv, .ref sb, .ref ss, .int wt])), (so, .inl (g.2 0, 6, .inl fo)), (sv, .inl (g.2 0, 6, .inl fv)), (sb, .inl (g.2 0, 6, .inl fb)), (ss, .inr (8, [.int cap, .int fst, .int stf, .int sol]))] H := hP
  replace hD : va_D A [(h0, .inr (11, [.ref pl, .ref sa, .ref ea, .ref oa, .ref tsa, .ref usa, .ref vea, .ref lka, .ref ra, .ref sha, .ref tra, .int lf, .int std, .int tkd, .int tck])), (tsa, .inr (7, [.ref tso, .ref tsv, .ref tsb, .ref tss, .int x3])), (tso, .inl (g.2 0, 6, .inl x4)), (tsv, .inl (g.2 0, 6, .inl x5)), (tsb, .inl (g.2 0, 6, .inl x6)), (tss, .inr (8, [.int x7, .int x8, .int x9, .int x10])), (sa, .inr (7, [.ref so, .ref sv, .ref sb, .ref ss, .int wt])), (so, .inl (g.2 0, 6, .inl fo)), (sv, .inl (g.2 0, 6, .inl fv)), (sb, .inl (g.2 0, 6, .inl fb)), (ss, .inr (8, [.int cap, .int fst, .int stf, .int sol]))] := hD
  refine lv_aload_n hx hb dX11_start_11 rfl (lv_at hl 0 rfl) ?_
  refine lv_iconst (v := 1) hx hb dX11_start_12 (by decide) ?_
  refine va_put (D := g.1) (ci := 11) (v := .int 1) (ty := .boolean) (C := RX11) (T := TX11) (N := 15) hx hb hts hc_X11_start_X11 tyX11 tyX11_ok nmX11 hown hK hP hD hS 0 rfl rfl 12 (by decide) (hts (.fieldLink RX11 252 "OilPush" "started" "Z") (List.mem_of_getElem? (i := 3) rfl)) (fun _ h => h) rfl (by decide +kernel) rfl rfl (Nat.le_of_ble_eq_true rfl) dX11_start_13 (fun H locs hP hD hS => ?_)
  replace hP : va_P g.1 vwCl [(h0, .inr (11, [.ref pl, .ref sa, .ref ea, .ref oa, .ref tsa, .ref usa, .ref vea, .ref lka, .ref ra, .ref sha, .ref tra, .int lf, .int 1, .int tkd, .int tck])), (tsa, .inr (7, [.ref tso, .ref tsv, .ref tsb, .ref tss, .int x3])), (tso, .inl (g.2 0, 6, .inl x4)), (tsv, .inl (g.2 0, 6, .inl x5)), (tsb, .inl (g.2 0, 6, .inl x6)), (tss, .inr (8, [.int x7, .int x8, .int x9, .int x10])), (sa, .inr (7, [.ref so, .ref sv, .ref sb, .ref ss, .int wt])), (so, .inl (g.2 0, 6, .inl fo)), (sv, .inl (g.2 0, 6, .inl fv)), (sb, .inl (g.2 0, 6, .inl fb)), (ss, .inr (8, [.int cap, .int fst, .int stf, .int sol]))] H := hP
  replace hD : va_D A [(h0, .inr (11, [.ref pl, .ref sa, .ref ea, .ref oa, .ref tsa, .ref usa, .ref vea, .ref lka, .ref ra, .ref sha, .ref tra, .int lf, .int 1, .int tkd, .int tck])), (tsa, .inr (7, [.ref tso, .ref tsv, .ref tsb, .ref tss, .int x3])), (tso, .inl (g.2 0, 6, .inl x4)), (tsv, .inl (g.2 0, 6, .inl x5)), (tsb, .inl (g.2 0, 6, .inl x6)), (tss, .inr (8, [.int x7, .int x8, .int x9, .int x10])), (sa, .inr (7, [.ref so, .ref sv, .ref sb, .ref ss, .int wt])), (so, .inl (g.2 0, 6, .inl fo)), (sv, .inl (g.2 0, 6, .inl fv)), (sb, .inl (g.2 0, 6, .inl fb)), (ss, .inr (8, [.int cap, .int fst, .int stf, .int sol]))] := hD
  refine lv_aload_n hx hb dX11_start_16 rfl (lv_at hl 0 rfl) ?_
  refine lv_iconst (v := 0) hx hb dX11_start_17 (by decide) ?_
  refine va_put (D := g.1) (ci := 11) (v := .int 0) (ty := .int) (C := RX11) (T := TX11) (N := 15) hx hb hts hc_X11_start_X11 tyX11 tyX11_ok nmX11 hown hK hP hD hS 0 rfl rfl 14 (by decide) (hts (.fieldLink RX11 197 "OilPush" "ticks" "I") (List.mem_of_getElem? (i := 4) rfl)) (fun _ h => h) rfl (by decide +kernel) rfl rfl (Nat.le_of_ble_eq_true rfl) dX11_start_18 (fun H locs hP hD hS => ?_)
  replace hP : va_P g.1 vwCl [(h0, .inr (11, [.ref pl, .ref sa, .ref ea, .ref oa, .ref tsa, .ref usa, .ref vea, .ref lka, .ref ra, .ref sha, .ref tra, .int lf, .int 1, .int tkd, .int 0])), (tsa, .inr (7, [.ref tso, .ref tsv, .ref tsb, .ref tss, .int x3])), (tso, .inl (g.2 0, 6, .inl x4)), (tsv, .inl (g.2 0, 6, .inl x5)), (tsb, .inl (g.2 0, 6, .inl x6)), (tss, .inr (8, [.int x7, .int x8, .int x9, .int x10])), (sa, .inr (7, [.ref so, .ref sv, .ref sb, .ref ss, .int wt])), (so, .inl (g.2 0, 6, .inl fo)), (sv, .inl (g.2 0, 6, .inl fv)), (sb, .inl (g.2 0, 6, .inl fb)), (ss, .inr (8, [.int cap, .int fst, .int stf, .int sol]))] H := hP
  replace hD : va_D A [(h0, .inr (11, [.ref pl, .ref sa, .ref ea, .ref oa, .ref tsa, .ref usa, .ref vea, .ref lka, .ref ra, .ref sha, .ref tra, .int lf, .int 1, .int tkd, .int 0])), (tsa, .inr (7, [.ref tso, .ref tsv, .ref tsb, .ref tss, .int x3])), (tso, .inl (g.2 0, 6, .inl x4)), (tsv, .inl (g.2 0, 6, .inl x5)), (tsb, .inl (g.2 0, 6, .inl x6)), (tss, .inr (8, [.int x7, .int x8, .int x9, .int x10])), (sa, .inr (7, [.ref so, .ref sv, .ref sb, .ref ss, .int wt])), (so, .inl (g.2 0, 6, .inl fo)), (sv, .inl (g.2 0, 6, .inl fv)), (sb, .inl (g.2 0, 6, .inl fb)), (ss, .inr (8, [.int cap, .int fst, .int stf, .int sol]))] := hD
  refine lv_iconst (v := 1) hx hb dX11_start_21 (by decide) ?_
  exact retI C hS (1, 0, x3, x4, x5, x6, x7, x8, x9, x10) ⟨rfl, rfl⟩ (hP.pick [0, 6, 7, 8, 9, 10, 1, 2, 3, 4, 5] rfl) (hD.sub [0, 6, 7, 8, 9, 10, 1, 2, 3, 4, 5] (by decide +kernel) rfl) (Nat.le_of_ble_eq_true rfl) (Nat.le_of_ble_eq_true rfl) dX11_start_22
theorem hc_X11_fill_X11 : ∀ w ∈ wsX110, w ∈ wsX11_fill := fun w h => List.mem_cons_of_mem _ (List.mem_append_left _ (List.mem_append_left _ (List.mem_append_left _ (List.mem_append_left _ (List.mem_append_left _ (List.mem_append_right _ h))))))
theorem hc_X11_fill_X7 : ∀ w ∈ wsX70, w ∈ wsX11_fill := fun w h => List.mem_cons_of_mem _ (List.mem_append_left _ (List.mem_append_left _ (List.mem_append_left _ (List.mem_append_left _ (List.mem_append_right _ h)))))
set_option maxRecDepth 100000 in
set_option maxHeartbeats 4000000 in
theorem x_fill (l : Launch) (g : Gt) (h0 : Nat) (sha : Nat) (tra : Nat) (lf : Int32) (std : Int32) (tkd : Int32) (tck : Int32) (sa : Nat) (ea : Nat) (oa : Nat) (tsa : Nat) (usa : Nat) (vea : Nat) (lka : Nat) (ra : Nat) (pl : Nat) (gv : Int32) (lim : Int32) (ca : Nat) (cnt : Int32) (la : Nat) (fc : Nat → Option Nat) (so : Nat) (sv : Nat) (sb : Nat) (ss : Nat) (wt : Int32) (fo : Nat → Int32) (cy : Int32) (v : Int32) (cs : List Cy) (hcs : CS cs cnt fc) : Ctr l g yX11_fill wsX11_fill ({ frames := 2, cells := 0, slots := 0, locals := 45 } : Room) [.ref h0, .int cy, .int v] ([(h0, .inr (11, [.ref pl, .ref sa, .ref ea, .ref oa, .ref tsa, .ref usa, .ref vea, .ref lka, .ref ra, .ref sha, .ref tra, .int lf, .int std, .int tkd, .int tck])), (pl, .inr (4, [.int gv, .int lim, .ref ca, .int cnt, .ref la])), (ca, .inl (g.2 3, 6, .inr (.inr (.inr (.inr fc))))), (sa, .inr (7, [.ref so, .ref sv, .ref sb, .ref ss, .int wt])), (so, .inl (g.2 0, 6, .inl fo))] ++ cysW g cs) (fun A => QI g A (fun r (u : (Nat → Int32)) => True) (fun (u : (Nat → Int32)) => ([(h0, .inr (11, [.ref pl, .ref sa, .ref ea, .ref oa, .ref tsa, .ref usa, .ref vea, .ref lka, .ref ra, .ref sha, .ref tra, .int lf, .int std, .int tkd, .int tck])), (pl, .inr (4, [.int gv, .int lim, .ref ca, .int cnt, .ref la])), (ca, .inl (g.2 3, 6, .inr (.inr (.inr (.inr fc))))), (sa, .inr (7, [.ref so, .ref sv, .ref sb, .ref ss, .int wt])), (so, .inl (g.2 0, 6, .inl u))] ++ cysW g cs))) := by
  refine Ctr.of (cc := cX11_fill) (maxL := 4) (ret := (some .int)) (by decide) rfl (Nat.le_of_ble_eq_true rfl) ?_
  intro p e s m below meth c A ls H C hP hD hA hS hl
  obtain ⟨hx, hb, hr, hts, hown, hlocks, hml, hin, hKN⟩ := id C
  have hK := hKN.1
  have hN := hKN.2
  have F : CallFix p m c cX11_fill 4 s _ wsX11_fill yX11_fill.cls := ⟨hx, hb, hml, hown, hts⟩
  have hl : lv_has ls 4 [(0, .ref h0), (1, .int cy), (2, .int v)] := hl
  refine lv_aload_n hx hb dX11_fill_0 rfl (lv_at hl 0 rfl) ?_
  refine va_get (D := g.1) (ci := 11) (v := .ref pl) (C := RX11) (T := TX11) (N := 15) hx hb hts hc_X11_fill_X11 hown hK hP 0 rfl rfl 0 (by decide) (hts (.fieldLink RX11 12 "OilPush" "plant" "LOilPush$Plant;") (List.mem_of_getElem? (i := 1) rfl)) (fun _ h => h) rfl dX11_fill_1 ?_
  refine lv_iload_n hx hb dX11_fill_4 rfl (lv_at hl 1 rfl) ?_
  refine kQ (rnV (As := [.int cy]) (rest := []) (Cn := RX4) C (p_at l g pl gv lim ca cnt la fc cy) 1 gX11_fill_X4_at rfl (by decide +kernel) ⟨(Nat.le_of_ble_eq_true rfl), (Nat.le_of_ble_eq_true rfl)⟩ hP (k := 1) (ci := 4) rfl rfl rfl rfl hl.1 rfl (Nat.le_of_ble_eq_true rfl) dX11_fill_5 ⟨(Nat.le_of_ble_eq_true rfl), (Nat.le_of_ble_eq_true rfl)⟩) (spM (X := [(h0, .inr (11, [.ref pl, .ref sa, .ref ea, .ref oa, .ref tsa, .ref usa, .ref vea, .ref lka, .ref ra, .ref sha, .ref tra, .int lf, .int std, .int tkd, .int tck])), (pl, .inr (4, [.int gv, .int lim, .ref ca, .int cnt, .ref la])), (ca, .inl (g.2 3, 6, .inr (.inr (.inr (.inr fc))))), (sa, .inr (7, [.ref so, .ref sv, .ref sb, .ref ss, .int wt])), (so, .inl (g.2 0, 6, .inl fo))]) (pl := cysW g cs) [false, true, true, false, false] hP hD rfl) hA hS (fun r1 u2 H locs hw hP hD hS => ?_)
  have f3 := hw
  replace hP : va_P g.1 vwCl ([(h0, .inr (11, [.ref pl, .ref sa, .ref ea, .ref oa, .ref tsa, .ref usa, .ref vea, .ref lka, .ref ra, .ref sha, .ref tra, .int lf, .int std, .int tkd, .int tck])), (pl, .inr (4, [.int gv, .int lim, .ref ca, .int cnt, .ref la])), (ca, .inl (g.2 3, 6, .inr (.inr (.inr (.inr fc))))), (sa, .inr (7, [.ref so, .ref sv, .ref sb, .ref ss, .int wt])), (so, .inl (g.2 0, 6, .inl fo))] ++ cysW g cs) H := hP
  replace hD : va_D A ([(h0, .inr (11, [.ref pl, .ref sa, .ref ea, .ref oa, .ref tsa, .ref usa, .ref vea, .ref lka, .ref ra, .ref sha, .ref tra, .int lf, .int std, .int tkd, .int tck])), (pl, .inr (4, [.int gv, .int lim, .ref ca, .int cnt, .ref la])), (ca, .inl (g.2 3, 6, .inr (.inr (.inr (.inr fc))))), (sa, .inr (7, [.ref so, .ref sv, .ref sb, .ref ss, .int wt])), (so, .inl (g.2 0, 6, .inl fo))] ++ cysW g cs) := hD
  rcases at_cases hcs f3 with ⟨hr9, hout⟩ | ⟨l1, y9, l2, hcse, hce, hr9⟩
  · subst hr9
    refine nx_v (v := .null) rfl ?_
    refine lv_astore_nN (lv' := [(3, .null), (0, .ref h0), (1, .int cy), (2, .int v)]) hx hb dX11_fill_8 rfl hl (by decide) rfl (fun ls hl => ?_)
    refine lv_aload_nN hx hb dX11_fill_9 rfl (lv_at hl 0 rfl) ?_
    refine lv_ifnonnullN hx hb dX11_fill_10 ?_
    refine lv_iconst (v := -1) hx hb dX11_fill_13 (by decide) ?_
    exact retI C hS fo trivial hP hD (Nat.le_of_ble_eq_true rfl) (Nat.le_of_ble_eq_true rfl) dX11_fill_14
  subst hr9
  obtain ⟨yb, yr, yk, ynum, yar, ysk, ylc, ycr, yfl, yrow⟩ := y9
  refine nx_v (v := .ref yb) rfl ?_
  replace hP := zk_csP hcse hP; replace hD := zk_csD hcse hD
  replace hP := cys_splitP hP
  replace hD := cys_splitD hD
  replace hP : va_P g.1 vwCl ([(h0, .inr (11, [.ref pl, .ref sa, .ref ea, .ref oa, .ref tsa, .ref usa, .ref vea, .ref lka, .ref ra, .ref sha, .ref tra, .int lf, .int std, .int tkd, .int tck])), (pl, .inr (4, [.int gv, .int lim, .ref ca, .int cnt, .ref la])), (ca, .inl (g.2 3, 6, .inr (.inr (.inr (.inr fc))))), (sa, .inr (7, [.ref so, .ref sv, .ref sb, .ref ss, .int wt])), (so, .inl (g.2 0, 6, .inl fo)), (yb, .inr (ckI yk, [.int ynum, .int yar, .int ysk, .ref yr, .int ylc, .int ycr, .int yfl])), (yr, .inl (g.2 0, 10, .inl yrow))] ++ (cysW g l1 ++ cysW g l2)) H := hP
  replace hD : va_D A ([(h0, .inr (11, [.ref pl, .ref sa, .ref ea, .ref oa, .ref tsa, .ref usa, .ref vea, .ref lka, .ref ra, .ref sha, .ref tra, .int lf, .int std, .int tkd, .int tck])), (pl, .inr (4, [.int gv, .int lim, .ref ca, .int cnt, .ref la])), (ca, .inl (g.2 3, 6, .inr (.inr (.inr (.inr fc))))), (sa, .inr (7, [.ref so, .ref sv, .ref sb, .ref ss, .int wt])), (so, .inl (g.2 0, 6, .inl fo)), (yb, .inr (ckI yk, [.int ynum, .int yar, .int ysk, .ref yr, .int ylc, .int ycr, .int yfl])), (yr, .inl (g.2 0, 10, .inl yrow))] ++ (cysW g l1 ++ cysW g l2)) := hD
  refine lv_astore_n (lv' := [(3, .ref yb), (0, .ref h0), (1, .int cy), (2, .int v)]) hx hb dX11_fill_8 rfl hl (by decide) rfl (fun ls hl => ?_)
  refine lv_aload_n hx hb dX11_fill_9 rfl (lv_at hl 0 rfl) ?_
  refine lv_ifnonnull (tgt := 15) hx hb dX11_fill_10 (by decide) ?_
  refine lv_iload_n hx hb dX11_fill_15 rfl (lv_at hl 3 rfl) ?_
  refine lv_iconst (v := 0) hx hb dX11_fill_16 (by decide) ?_
  refine lv_aload_n hx hb dX11_fill_17 rfl (lv_at hl 0 rfl) ?_
  refine kI (ck_elim (P := fun k9 => va_P g.1 vwCl ([(h0, .inr (11, [.ref pl, .ref sa, .ref ea, .ref oa, .ref tsa, .ref usa, .ref vea, .ref lka, .ref ra, .ref sha, .ref tra, .int lf, .int std, .int tkd, .int tck])), (pl, .inr (4, [.int gv, .int lim, .ref ca, .int cnt, .ref la])), (ca, .inl (g.2 3, 6, .inr (.inr (.inr (.inr fc))))), (sa, .inr (7, [.ref so, .ref sv, .ref sb, .ref ss, .int wt])), (so, .inl (g.2 0, 6, .inl fo)), (yb, .inr (ckI k9, [.int ynum, .int yar, .int ysk, .ref yr, .int ylc, .int ycr, .int yfl])), (yr, .inl (g.2 0, 10, .inl yrow))] ++ (cysW g l1 ++ cysW g l2)) H → KR p l e _ s m _ below meth c _ _ _ _ 0 0 18 ls [.ref yb, .int 0, .int v] [.int 0, .int v] g A [(yb, .inr (ckI k9, [.int ynum, .int yar, .int ysk, .ref yr, .int ylc, .int ycr, .int yfl]))] (fun A => QI g A (fun r (_ : Unit) => r = (yar * ysk)) (fun u : Unit => [(yb, .inr (ckI k9, [.int ynum, .int yar, .int ysk, .ref yr, .int ylc, .int ycr, .int yfl]))]))) (fun hP => (rnV (As := []) (rest := [.int 0, .int v]) (Cn := RX0) C (y0_room l g yb yr ynum yar ysk ylc ycr yfl) 0 gX11_fill_X0_room rfl (by decide +kernel) ⟨(Nat.le_of_ble_eq_true rfl), (Nat.le_of_ble_eq_true rfl)⟩ hP (k := 5) (ci := 0) rfl rfl rfl rfl hl.1 rfl (Nat.le_of_ble_eq_true rfl) dX11_fill_18 ⟨(Nat.le_of_ble_eq_true rfl), (Nat.le_of_ble_eq_true rfl)⟩)) (fun hP => (rnU (As := []) (rest := [.int 0, .int v]) (Cn := RX2) C (y2_room l g yb yr ynum yar ysk ylc ycr yfl) 0 gX11_fill_X0_room_u145X2 rfl rfl (by decide +kernel) ⟨(Nat.le_of_ble_eq_true rfl), (Nat.le_of_ble_eq_true rfl)⟩ hP (k := 5) (ci := 2) rfl rfl rfl rfl hl.1 rfl (Nat.le_of_ble_eq_true rfl) dX11_fill_18 ⟨(Nat.le_of_ble_eq_true rfl), (Nat.le_of_ble_eq_true rfl)⟩)) (fun hP => (rnU (As := []) (rest := [.int 0, .int v]) (Cn := RX10) C (y10_room l g yb yr ynum yar ysk ylc ycr yfl) 0 gX11_fill_X0_room_u145X10 rfl rfl (by decide +kernel) ⟨(Nat.le_of_ble_eq_true rfl), (Nat.le_of_ble_eq_true rfl)⟩ hP (k := 5) (ci := 10) rfl rfl rfl rfl hl.1 rfl (Nat.le_of_ble_eq_true rfl) dX11_fill_18 ⟨(Nat.le_of_ble_eq_true rfl), (Nat.le_of_ble_eq_true rfl)⟩)) yk hP) (spM (X := [(h0, .inr (11, [.ref pl, .ref sa, .ref ea, .ref oa, .ref tsa, .ref usa, .ref vea, .ref lka, .ref ra, .ref sha, .ref tra, .int lf, .int std, .int tkd, .int tck])), (pl, .inr (4, [.int gv, .int lim, .ref ca, .int cnt, .ref la])), (ca, .inl (g.2 3, 6, .inr (.inr (.inr (.inr fc))))), (sa, .inr (7, [.ref so, .ref sv, .ref sb, .ref ss, .int wt])), (so, .inl (g.2 0, 6, .inl fo)), (yb, .inr (ckI yk, [.int ynum, .int yar, .int ysk, .ref yr, .int ylc, .int ycr, .int yfl])), (yr, .inl (g.2 0, 10, .inl yrow))]) (pl := (cysW g l1 ++ cysW g l2)) [false, false, false, false, false, true, false] hP hD rfl) hA hS (fun r5 u4 H locs hw hP hD hS => ?_)
  replace hP : va_P g.1 vwCl ([(h0, .inr (11, [.ref pl, .ref sa, .ref ea, .ref oa, .ref tsa, .ref usa, .ref vea, .ref lka, .ref ra, .ref sha, .ref tra, .int lf, .int std, .int tkd, .int tck])), (pl, .inr (4, [.int gv, .int lim, .ref ca, .int cnt, .ref la])), (ca, .inl (g.2 3, 6, .inr (.inr (.inr (.inr fc))))), (sa, .inr (7, [.ref so, .ref sv, .ref sb, .ref ss, .int wt])), (so, .inl (g.2 0, 6, .inl fo)), (yb, .inr (ckI yk, [.int ynum, .int yar, .int ysk, .ref yr, .int ylc, .int ycr, .int yfl])), (yr, .inl (g.2 0, 10, .inl yrow))] ++ (cysW g l1 ++ cysW g l2)) H := hP
  replace hD : va_D A ([(h0, .inr (11, [.ref pl, .ref sa, .ref ea, .ref oa, .ref tsa, .ref usa, .ref vea, .ref lka, .ref ra, .ref sha, .ref tra, .int lf, .int std, .int tkd, .int tck])), (pl, .inr (4, [.int gv, .int lim, .ref ca, .int cnt, .ref la])), (ca, .inl (g.2 3, 6, .inr (.inr (.inr (.inr fc))))), (sa, .inr (7, [.ref so, .ref sv, .ref sb, .ref ss, .int wt])), (so, .inl (g.2 0, 6, .inl fo)), (yb, .inr (ckI yk, [.int ynum, .int yar, .int ysk, .ref yr, .int ylc, .int ycr, .int yfl])), (yr, .inl (g.2 0, 10, .inl yrow))] ++ (cysW g l1 ++ cysW g l2)) := hD
  refine nx_i (v := (yar * ysk)) hw ?_
  refine pureIS (As := [.int v, .int 0, .int (yar * ysk)]) (rest := []) F (c_within l v 0 (yar * ysk)) 3 gX11_fill_X11_within rfl (by decide +kernel) rfl rfl ⟨(Nat.le_of_ble_eq_true rfl), (Nat.le_of_ble_eq_true rfl)⟩ (Nat.le_of_ble_eq_true rfl) (Nat.le_of_ble_eq_true rfl) rfl hl.1 rfl (Nat.le_of_ble_eq_true rfl) dX11_fill_21 ?_
  refine lv_if_eq (tgt := 42) hx hb dX11_fill_24 (by decide) (fun c6 => ?_) (fun c6 => ?_)
  · refine lv_bipush (v := -2) hx hb dX11_fill_42 (by decide) ?_
    replace hP : va_P g.1 vwCl ([(h0, .inr (11, [.ref pl, .ref sa, .ref ea, .ref oa, .ref tsa, .ref usa, .ref vea, .ref lka, .ref ra, .ref sha, .ref tra, .int lf, .int std, .int tkd, .int tck])), (pl, .inr (4, [.int gv, .int lim, .ref ca, .int cnt, .ref la])), (ca, .inl (g.2 3, 6, .inr (.inr (.inr (.inr fc))))), (sa, .inr (7, [.ref so, .ref sv, .ref sb, .ref ss, .int wt])), (so, .inl (g.2 0, 6, .inl fo))] ++ cysW g (l1 ++ (yb, yr, yk, ynum, yar, ysk, ylc, ycr, yfl, yrow) :: l2)) H := cys_joinP (X := [(h0, .inr (11, [.ref pl, .ref sa, .ref ea, .ref oa, .ref tsa, .ref usa, .ref vea, .ref lka, .ref ra, .ref sha, .ref tra, .int lf, .int std, .int tkd, .int tck])), (pl, .inr (4, [.int gv, .int lim, .ref ca, .int cnt, .ref la])), (ca, .inl (g.2 3, 6, .inr (.inr (.inr (.inr fc))))), (sa, .inr (7, [.ref so, .ref sv, .ref sb, .ref ss, .int wt])), (so, .inl (g.2 0, 6, .inl fo))]) (y := (yb, yr, yk, ynum, yar, ysk, ylc, ycr, yfl, yrow)) (hP.part [0, 1, 2, 3, 4, 5, 6] rfl)
    replace hD : va_D A ([(h0, .inr (11, [.ref pl, .ref sa, .ref ea, .ref oa, .ref tsa, .ref usa, .ref vea, .ref lka, .ref ra, .ref sha, .ref tra, .int lf, .int std, .int tkd, .int tck])), (pl, .inr (4, [.int gv, .int lim, .ref ca, .int cnt, .ref la])), (ca, .inl (g.2 3, 6, .inr (.inr (.inr (.inr fc))))), (sa, .inr (7, [.ref so, .ref sv, .ref sb, .ref ss, .int wt])), (so, .inl (g.2 0, 6, .inl fo))] ++ cysW g (l1 ++ (yb, yr, yk, ynum, yar, ysk, ylc, ycr, yfl, yrow) :: l2)) := cys_joinD (X := [(h0, .inr (11, [.ref pl, .ref sa, .ref ea, .ref oa, .ref tsa, .ref usa, .ref vea, .ref lka, .ref ra, .ref sha, .ref tra, .int lf, .int std, .int tkd, .int tck])), (pl, .inr (4, [.int gv, .int lim, .ref ca, .int cnt, .ref la])), (ca, .inl (g.2 3, 6, .inr (.inr (.inr (.inr fc))))), (sa, .inr (7, [.ref so, .ref sv, .ref sb, .ref ss, .int wt])), (so, .inl (g.2 0, 6, .inl fo))]) (y := (yb, yr, yk, ynum, yar, ysk, ylc, ycr, yfl, yrow)) (hD.part [0, 1, 2, 3, 4, 5, 6] rfl rfl)
    replace hP := zk_csP hcse.symm hP; replace hD := zk_csD hcse.symm hD
    exact retI C hS fo trivial hP hD (Nat.le_of_ble_eq_true rfl) (Nat.le_of_ble_eq_true rfl) dX11_fill_44
  refine lv_aload_n hx hb dX11_fill_27 rfl (lv_at hl 1 rfl) ?_
  refine va_get (D := g.1) (ci := 11) (v := .ref sa) (C := RX11) (T := TX11) (N := 15) hx hb hts hc_X11_fill_X11 hown hK hP 0 rfl rfl 1 (by decide) (hts (.fieldLink RX11 21 "OilPush" "now" "LOilPush$State;") (List.mem_of_getElem? (i := 2) rfl)) (fun _ h => h) rfl dX11_fill_28 ?_
  refine va_get (D := g.1) (ci := 7) (v := .ref so) (C := RX7) (T := TX7) (N := 5) hx hb hts hc_X11_fill_X7 hown hK hP 3 rfl rfl 0 (by decide) (hts (.fieldLink RX11 149 "OilPush$State" "oil" "[I") (List.mem_of_getElem? (i := 3) rfl)) (fun _ h => h) rfl dX11_fill_31 ?_
  refine lv_iload_n hx hb dX11_fill_34 rfl (lv_at hl 2 rfl) ?_
  refine lv_iload_n hx hb dX11_fill_35 rfl (lv_at hl 3 rfl) ?_
  refine kI (rnS (As := [.ref so, .int cy, .int v]) (rest := []) C (x_swap l g so fo cy v) 3 gX11_fill_X11_swap rfl (by decide +kernel) ⟨(Nat.le_of_ble_eq_true rfl), (Nat.le_of_ble_eq_true rfl)⟩ rfl hl.1 rfl (Nat.le_of_ble_eq_true rfl) dX11_fill_36 ⟨(Nat.le_of_ble_eq_true rfl), (Nat.le_of_ble_eq_true rfl)⟩) (spM (X := [(h0, .inr (11, [.ref pl, .ref sa, .ref ea, .ref oa, .ref tsa, .ref usa, .ref vea, .ref lka, .ref ra, .ref sha, .ref tra, .int lf, .int std, .int tkd, .int tck])), (pl, .inr (4, [.int gv, .int lim, .ref ca, .int cnt, .ref la])), (ca, .inl (g.2 3, 6, .inr (.inr (.inr (.inr fc))))), (sa, .inr (7, [.ref so, .ref sv, .ref sb, .ref ss, .int wt])), (so, .inl (g.2 0, 6, .inl fo)), (yb, .inr (ckI yk, [.int ynum, .int yar, .int ysk, .ref yr, .int ylc, .int ycr, .int yfl])), (yr, .inl (g.2 0, 10, .inl yrow))]) (pl := (cysW g l1 ++ cysW g l2)) [false, false, false, false, true, false, false] hP hD rfl) hA hS (fun r7 u8 H locs hw hP hD hS => ?_)
  have hre := hw
  replace hP : va_P g.1 vwCl ([(h0, .inr (11, [.ref pl, .ref sa, .ref ea, .ref oa, .ref tsa, .ref usa, .ref vea, .ref lka, .ref ra, .ref sha, .ref tra, .int lf, .int std, .int tkd, .int tck])), (pl, .inr (4, [.int gv, .int lim, .ref ca, .int cnt, .ref la])), (ca, .inl (g.2 3, 6, .inr (.inr (.inr (.inr fc))))), (sa, .inr (7, [.ref so, .ref sv, .ref sb, .ref ss, .int wt])), (so, .inl (g.2 0, 6, .inl (r_c_set 6 fo cy v))), (yb, .inr (ckI yk, [.int ynum, .int yar, .int ysk, .ref yr, .int ylc, .int ycr, .int yfl])), (yr, .inl (g.2 0, 10, .inl yrow))] ++ (cysW g l1 ++ cysW g l2)) H := hP
  replace hD : va_D A ([(h0, .inr (11, [.ref pl, .ref sa, .ref ea, .ref oa, .ref tsa, .ref usa, .ref vea, .ref lka, .ref ra, .ref sha, .ref tra, .int lf, .int std, .int tkd, .int tck])), (pl, .inr (4, [.int gv, .int lim, .ref ca, .int cnt, .ref la])), (ca, .inl (g.2 3, 6, .inr (.inr (.inr (.inr fc))))), (sa, .inr (7, [.ref so, .ref sv, .ref sb, .ref ss, .int wt])), (so, .inl (g.2 0, 6, .inl (r_c_set 6 fo cy v))), (yb, .inr (ckI yk, [.int ynum, .int yar, .int ysk, .ref yr, .int ylc, .int ycr, .int yfl])), (yr, .inl (g.2 0, 10, .inl yrow))] ++ (cysW g l1 ++ cysW g l2)) := hD
  refine nx_i (v := (r_c_get 6 fo cy)) hre ?_
  refine lv_goto (tgt := 44) hx hb dX11_fill_39 (by decide) ?_
  replace hP : va_P g.1 vwCl ([(h0, .inr (11, [.ref pl, .ref sa, .ref ea, .ref oa, .ref tsa, .ref usa, .ref vea, .ref lka, .ref ra, .ref sha, .ref tra, .int lf, .int std, .int tkd, .int tck])), (pl, .inr (4, [.int gv, .int lim, .ref ca, .int cnt, .ref la])), (ca, .inl (g.2 3, 6, .inr (.inr (.inr (.inr fc))))), (sa, .inr (7, [.ref so, .ref sv, .ref sb, .ref ss, .int wt])), (so, .inl (g.2 0, 6, .inl (r_c_set 6 fo cy v)))] ++ cysW g (l1 ++ (yb, yr, yk, ynum, yar, ysk, ylc, ycr, yfl, yrow) :: l2)) H := cys_joinP (X := [(h0, .inr (11, [.ref pl, .ref sa, .ref ea, .ref oa, .ref tsa, .ref usa, .ref vea, .ref lka, .ref ra, .ref sha, .ref tra, .int lf, .int std, .int tkd, .int tck])), (pl, .inr (4, [.int gv, .int lim, .ref ca, .int cnt, .ref la])), (ca, .inl (g.2 3, 6, .inr (.inr (.inr (.inr fc))))), (sa, .inr (7, [.ref so, .ref sv, .ref sb, .ref ss, .int wt])), (so, .inl (g.2 0, 6, .inl (r_c_set 6 fo cy v)))]) (y := (yb, yr, yk, ynum, yar, ysk, ylc, ycr, yfl, yrow)) (hP.part [0, 1, 2, 3, 4, 5, 6] rfl)
  replace hD : va_D A ([(h0, .inr (11, [.ref pl, .ref sa, .ref ea, .ref oa, .ref tsa, .ref usa, .ref vea, .ref lka, .ref ra, .ref sha, .ref tra, .int lf, .int std, .int tkd, .int tck])), (pl, .inr (4, [.int gv, .int lim, .ref ca, .int cnt, .ref la])), (ca, .inl (g.2 3, 6, .inr (.inr (.inr (.inr fc))))), (sa, .inr (7, [.ref so, .ref sv, .ref sb, .ref ss, .int wt])), (so, .inl (g.2 0, 6, .inl (r_c_set 6 fo cy v)))] ++ cysW g (l1 ++ (yb, yr, yk, ynum, yar, ysk, ylc, ycr, yfl, yrow) :: l2)) := cys_joinD (X := [(h0, .inr (11, [.ref pl, .ref sa, .ref ea, .ref oa, .ref tsa, .ref usa, .ref vea, .ref lka, .ref ra, .ref sha, .ref tra, .int lf, .int std, .int tkd, .int tck])), (pl, .inr (4, [.int gv, .int lim, .ref ca, .int cnt, .ref la])), (ca, .inl (g.2 3, 6, .inr (.inr (.inr (.inr fc))))), (sa, .inr (7, [.ref so, .ref sv, .ref sb, .ref ss, .int wt])), (so, .inl (g.2 0, 6, .inl (r_c_set 6 fo cy v)))]) (y := (yb, yr, yk, ynum, yar, ysk, ylc, ycr, yfl, yrow)) (hD.part [0, 1, 2, 3, 4, 5, 6] rfl rfl)
  replace hP := zk_csP hcse.symm hP; replace hD := zk_csD hcse.symm hD
  exact retI C hS (r_c_set 6 fo cy v) trivial hP hD (Nat.le_of_ble_eq_true rfl) (Nat.le_of_ble_eq_true rfl) dX11_fill_44
theorem hc_X4_howManyAt_X4 : ∀ w ∈ wsX40, w ∈ wsX4_howManyAt := fun w h => List.mem_cons_of_mem _ (List.mem_append_left _ (List.mem_append_left _ (List.mem_append_left _ (List.mem_append_left _ (List.mem_append_right _ h)))))
theorem hc_X4_howManyAt_X7 : ∀ w ∈ wsX70, w ∈ wsX4_howManyAt := fun w h => List.mem_cons_of_mem _ (List.mem_append_left _ (List.mem_append_left _ (List.mem_append_left _ (List.mem_append_right _ h))))
set_option maxRecDepth 100000 in
set_option maxHeartbeats 4000000 in
theorem p_howMany (l : Launch) (g : Gt) (pl : Nat) (gv : Int32) (lim : Int32) (ca : Nat) (cnt : Int32) (la : Nat) (fc : Nat → Option Nat) (en_ : Int32) (sa : Nat) (so : Nat) (sv : Nat) (sb : Nat) (ss : Nat) (wt : Int32) (fo : Nat → Int32) (cs : List Cy) (hcs : CS cs cnt fc) : Ctr l g yX4_howManyAt wsX4_howManyAt ({ frames := 2, cells := 0, slots := 0, locals := 42 } : Room) [.ref pl, .int en_, .ref sa] ([(pl, .inr (4, [.int gv, .int lim, .ref ca, .int cnt, .ref la])), (ca, .inl (g.2 3, 6, .inr (.inr (.inr (.inr fc))))), (sa, .inr (7, [.ref so, .ref sv, .ref sb, .ref ss, .int wt])), (so, .inl (g.2 0, 6, .inl fo))] ++ cysW g cs) (fun A => QI g A (fun r (u : Unit) => True) (fun (u : Unit) => ([(pl, .inr (4, [.int gv, .int lim, .ref ca, .int cnt, .ref la])), (ca, .inl (g.2 3, 6, .inr (.inr (.inr (.inr fc))))), (sa, .inr (7, [.ref so, .ref sv, .ref sb, .ref ss, .int wt])), (so, .inl (g.2 0, 6, .inl fo))] ++ cysW g cs))) := by
  refine Ctr.of (cc := cX4_howManyAt) (maxL := 6) (ret := (some .int)) (by decide) rfl (Nat.le_of_ble_eq_true rfl) ?_
  intro p e s m below meth c A ls H C hP hD hA hS hl
  obtain ⟨hx, hb, hr, hts, hown, hlocks, hml, hin, hKN⟩ := id C
  have hK := hKN.1
  have hN := hKN.2
  have F : CallFix p m c cX4_howManyAt 6 s _ wsX4_howManyAt yX4_howManyAt.cls := ⟨hx, hb, hml, hown, hts⟩
  have hl : lv_has ls 6 [(0, .ref pl), (1, .int en_), (2, .ref sa)] := hl
  refine lv_iconst (v := 0) hx hb dX4_howManyAt_0 (by decide) ?_
  refine lv_istore_n (lv' := [(3, .int 0), (0, .ref pl), (1, .int en_), (2, .ref sa)]) hx hb dX4_howManyAt_1 rfl hl (by decide) rfl (fun ls hl => ?_)
  refine lv_iconst (v := 0) hx hb dX4_howManyAt_2 (by decide) ?_
  refine lv_istore (lv' := [(4, .int 0), (3, .int 0), (0, .ref pl), (1, .int en_), (2, .ref sa)]) hx hb dX4_howManyAt_3 hl (by decide) rfl (fun ls hl => ?_)
  refine W.loop (α := Int32 × Int32) (P := fun z ls H locs => lv_has ls 6 [(4, .int z.1), (3, .int z.2), (0, .ref pl), (1, .int en_), (2, .ref sa)] ∧ va_P g.1 vwCl ([(pl, .inr (4, [.int gv, .int lim, .ref ca, .int cnt, .ref la])), (ca, .inl (g.2 3, 6, .inr (.inr (.inr (.inr fc))))), (sa, .inr (7, [.ref so, .ref sv, .ref sb, .ref ss, .int wt])), (so, .inl (g.2 0, 6, .inl fo))] ++ cysW g cs) H ∧ va_D A ([(pl, .inr (4, [.int gv, .int lim, .ref ca, .int cnt, .ref la])), (ca, .inl (g.2 3, 6, .inr (.inr (.inr (.inr fc))))), (sa, .inr (7, [.ref so, .ref sv, .ref sb, .ref ss, .int wt])), (so, .inl (g.2 0, 6, .inl fo))] ++ cysW g cs) ∧ va_S A s.heap H locs) (μ := fun z => (cnt.toInt - (z.1).toInt).toNat) (0, 0) ⟨hl, hP, hD, hS⟩ (fun z ls H locs hh ih5 => ?_)
  obtain ⟨l4_5, l3_5⟩ := z
  try dsimp only at hh ih5
  obtain ⟨hl, hP, hD, hS⟩ := hh
  have hl : lv_has ls 6 [(4, .int l4_5), (3, .int l3_5), (0, .ref pl), (1, .int en_), (2, .ref sa)] := hl
  replace hP : va_P g.1 vwCl ([(pl, .inr (4, [.int gv, .int lim, .ref ca, .int cnt, .ref la])), (ca, .inl (g.2 3, 6, .inr (.inr (.inr (.inr fc))))), (sa, .inr (7, [.ref so, .ref sv, .ref sb, .ref ss, .int wt])), (so, .inl (g.2 0, 6, .inl fo))] ++ cysW g cs) H := hP
  replace hD : va_D A ([(pl, .inr (4, [.int gv, .int lim, .ref ca, .int cnt, .ref la])), (ca, .inl (g.2 3, 6, .inr (.inr (.inr (.inr fc))))), (sa, .inr (7, [.ref so, .ref sv, .ref sb, .ref ss, .int wt])), (so, .inl (g.2 0, 6, .inl fo))] ++ cysW g cs) := hD
  refine lv_iload hx hb dX4_howManyAt_5 (lv_at hl 0 rfl) ?_
  refine lv_aload_n hx hb dX4_howManyAt_7 rfl (lv_at hl 2 rfl) ?_
  refine va_get (D := g.1) (ci := 4) (v := .int cnt) (C := RX4) (T := TX4) (N := 5) hx hb hts hc_X4_howManyAt_X4 hown hK hP 0 rfl rfl 3 (by decide) (hts (.fieldLink RX4 25 "OilPush$Plant" "count" "I") (List.mem_of_getElem? (i := 1) rfl)) (fun _ h => h) rfl dX4_howManyAt_8 ?_
  refine lv_icmp_ge (tgt := 54) hx hb dX4_howManyAt_11 (by decide) (fun c1 => ?_) (fun c1 => ?_)
  · refine lv_iload_n hx hb dX4_howManyAt_54 rfl (lv_at hl 1 rfl) ?_
    exact retI C hS () trivial hP hD (Nat.le_of_ble_eq_true rfl) (Nat.le_of_ble_eq_true rfl) dX4_howManyAt_55
  refine lv_aload_n hx hb dX4_howManyAt_14 rfl (lv_at hl 2 rfl) ?_
  refine lv_iload hx hb dX4_howManyAt_15 (lv_at hl 0 rfl) ?_
  refine kQ (rnV (As := [.int l4_5]) (rest := []) (Cn := RX4) C (p_at l g pl gv lim ca cnt la fc l4_5) 1 gX4_howManyAt_X4_at rfl (by decide +kernel) ⟨(Nat.le_of_ble_eq_true rfl), (Nat.le_of_ble_eq_true rfl)⟩ hP (k := 0) (ci := 4) rfl rfl rfl rfl hl.1 rfl (Nat.le_of_ble_eq_true rfl) dX4_howManyAt_17 ⟨(Nat.le_of_ble_eq_true rfl), (Nat.le_of_ble_eq_true rfl)⟩) (spM (X := [(pl, .inr (4, [.int gv, .int lim, .ref ca, .int cnt, .ref la])), (ca, .inl (g.2 3, 6, .inr (.inr (.inr (.inr fc))))), (sa, .inr (7, [.ref so, .ref sv, .ref sb, .ref ss, .int wt])), (so, .inl (g.2 0, 6, .inl fo))]) (pl := cysW g cs) [true, true, false, false] hP hD rfl) hA hS (fun r2 u3 H locs hw hP hD hS => ?_)
  have f4 := hw
  replace hP : va_P g.1 vwCl ([(pl, .inr (4, [.int gv, .int lim, .ref ca, .int cnt, .ref la])), (ca, .inl (g.2 3, 6, .inr (.inr (.inr (.inr fc))))), (sa, .inr (7, [.ref so, .ref sv, .ref sb, .ref ss, .int wt])), (so, .inl (g.2 0, 6, .inl fo))] ++ cysW g cs) H := hP
  replace hD : va_D A ([(pl, .inr (4, [.int gv, .int lim, .ref ca, .int cnt, .ref la])), (ca, .inl (g.2 3, 6, .inr (.inr (.inr (.inr fc))))), (sa, .inr (7, [.ref so, .ref sv, .ref sb, .ref ss, .int wt])), (so, .inl (g.2 0, 6, .inl fo))] ++ cysW g cs) := hD
  rcases at_cases hcs f4 with ⟨hr9, hout⟩ | ⟨l1, y9, l2, hcse, hce, hr9⟩
  · subst hr9
    refine nx_v (v := .null) rfl ?_
    refine lv_astoreN (lv' := [(5, .null), (4, .int l4_5), (3, .int l3_5), (0, .ref pl), (1, .int en_), (2, .ref sa)]) hx hb dX4_howManyAt_20 hl (by decide) rfl (fun ls hl => ?_)
    refine lv_aloadN hx hb dX4_howManyAt_22 (lv_at hl 0 rfl) ?_
    refine lv_ifnullN (tgt := 48) hx hb dX4_howManyAt_24 (by decide) ?_
    refine lv_iinc (v := (l4_5 + 1)) (lv' := [(4, .int (l4_5 + 1)), (5, .null), (3, .int l3_5), (0, .ref pl), (1, .int en_), (2, .ref sa)]) hx hb dX4_howManyAt_48 hl (k := 1) rfl rfl (by decide) rfl (fun ls hl => ?_)
    refine lv_goto (tgt := 5) hx hb dX4_howManyAt_51 (by decide) ?_
    exact ih5 ((l4_5 + 1), l3_5) ls H locs ⟨lv_sub hl [0, 2, 3, 4, 5] rfl, hP, hD, hS⟩ (inc_mu2 c1)
  subst hr9
  obtain ⟨yb, yr, yk, ynum, yar, ysk, ylc, ycr, yfl, yrow⟩ := y9
  refine nx_v (v := .ref yb) rfl ?_
  replace hP := zk_csP hcse hP; replace hD := zk_csD hcse hD
  replace hP := cys_splitP hP
  replace hD := cys_splitD hD
  replace hP : va_P g.1 vwCl ([(pl, .inr (4, [.int gv, .int lim, .ref ca, .int cnt, .ref la])), (ca, .inl (g.2 3, 6, .inr (.inr (.inr (.inr fc))))), (sa, .inr (7, [.ref so, .ref sv, .ref sb, .ref ss, .int wt])), (so, .inl (g.2 0, 6, .inl fo)), (yb, .inr (ckI yk, [.int ynum, .int yar, .int ysk, .ref yr, .int ylc, .int ycr, .int yfl])), (yr, .inl (g.2 0, 10, .inl yrow))] ++ (cysW g l1 ++ cysW g l2)) H := hP
  replace hD : va_D A ([(pl, .inr (4, [.int gv, .int lim, .ref ca, .int cnt, .ref la])), (ca, .inl (g.2 3, 6, .inr (.inr (.inr (.inr fc))))), (sa, .inr (7, [.ref so, .ref sv, .ref sb, .ref ss, .int wt])), (so, .inl (g.2 0, 6, .inl fo)), (yb, .inr (ckI yk, [.int ynum, .int yar, .int ysk, .ref yr, .int ylc, .int ycr, .int yfl])), (yr, .inl (g.2 0, 10, .inl yrow))] ++ (cysW g l1 ++ cysW g l2)) := hD
  refine lv_astore (lv' := [(5, .ref yb), (4, .int l4_5), (3, .int l3_5), (0, .ref pl), (1, .int en_), (2, .ref sa)]) hx hb dX4_howManyAt_20 hl (by decide) rfl (fun ls hl => ?_)
  refine lv_aload hx hb dX4_howManyAt_22 (lv_at hl 0 rfl) ?_
  refine lv_ifnull hx hb dX4_howManyAt_24 ?_
  refine lv_aload hx hb dX4_howManyAt_27 (lv_at hl 0 rfl) ?_
  refine lv_iload_n hx hb dX4_howManyAt_29 rfl (lv_at hl 4 rfl) ?_
  refine lv_aload_n hx hb dX4_howManyAt_30 rfl (lv_at hl 5 rfl) ?_
  refine va_get (D := g.1) (ci := 7) (v := .ref so) (C := RX7) (T := TX7) (N := 5) hx hb hts hc_X4_howManyAt_X7 hown hK hP 2 rfl rfl 0 (by decide) (hts (.fieldLink RX4 41 "OilPush$State" "oil" "[I") (List.mem_of_getElem? (i := 2) rfl)) (fun _ h => h) rfl dX4_howManyAt_31 ?_
  refine lv_iload hx hb dX4_howManyAt_34 (lv_at hl 1 rfl) ?_
  refine kI (rnN (host := "OilPush") (As := [.ref so, .int l4_5]) (rest := [.int en_, .ref yb]) C (c_get l g so 6 fo l4_5 (by decide)) 2 gX4_howManyAt_X11_get_n46 rfl (nst_21 hN) (by decide +kernel) (by decide +kernel) (by decide +kernel) ⟨(Nat.le_of_ble_eq_true rfl), (Nat.le_of_ble_eq_true rfl)⟩ rfl hl.1 rfl (Nat.le_of_ble_eq_true rfl) dX4_howManyAt_36 ⟨(Nat.le_of_ble_eq_true rfl), (Nat.le_of_ble_eq_true rfl)⟩) (spM (X := [(pl, .inr (4, [.int gv, .int lim, .ref ca, .int cnt, .ref la])), (ca, .inl (g.2 3, 6, .inr (.inr (.inr (.inr fc))))), (sa, .inr (7, [.ref so, .ref sv, .ref sb, .ref ss, .int wt])), (so, .inl (g.2 0, 6, .inl fo)), (yb, .inr (ckI yk, [.int ynum, .int yar, .int ysk, .ref yr, .int ylc, .int ycr, .int yfl])), (yr, .inl (g.2 0, 10, .inl yrow))]) (pl := (cysW g l1 ++ cysW g l2)) [false, false, false, true, false, false] hP hD rfl) hA hS (fun r5 u6 H locs hw hP hD hS => ?_)
  have hre := hw
  replace hP : va_P g.1 vwCl ([(pl, .inr (4, [.int gv, .int lim, .ref ca, .int cnt, .ref la])), (ca, .inl (g.2 3, 6, .inr (.inr (.inr (.inr fc))))), (sa, .inr (7, [.ref so, .ref sv, .ref sb, .ref ss, .int wt])), (so, .inl (g.2 0, 6, .inl fo)), (yb, .inr (ckI yk, [.int ynum, .int yar, .int ysk, .ref yr, .int ylc, .int ycr, .int yfl])), (yr, .inl (g.2 0, 10, .inl yrow))] ++ (cysW g l1 ++ cysW g l2)) H := hP
  replace hD : va_D A ([(pl, .inr (4, [.int gv, .int lim, .ref ca, .int cnt, .ref la])), (ca, .inl (g.2 3, 6, .inr (.inr (.inr (.inr fc))))), (sa, .inr (7, [.ref so, .ref sv, .ref sb, .ref ss, .int wt])), (so, .inl (g.2 0, 6, .inl fo)), (yb, .inr (ckI yk, [.int ynum, .int yar, .int ysk, .ref yr, .int ylc, .int ycr, .int yfl])), (yr, .inl (g.2 0, 10, .inl yrow))] ++ (cysW g l1 ++ cysW g l2)) := hD
  refine nx_i (v := (r_c_get 6 fo l4_5)) hre ?_
  refine kI (ck_elim (P := fun k9 => va_P g.1 vwCl ([(pl, .inr (4, [.int gv, .int lim, .ref ca, .int cnt, .ref la])), (ca, .inl (g.2 3, 6, .inr (.inr (.inr (.inr fc))))), (sa, .inr (7, [.ref so, .ref sv, .ref sb, .ref ss, .int wt])), (so, .inl (g.2 0, 6, .inl fo)), (yb, .inr (ckI k9, [.int ynum, .int yar, .int ysk, .ref yr, .int ylc, .int ycr, .int yfl])), (yr, .inl (g.2 0, 10, .inl yrow))] ++ (cysW g l1 ++ cysW g l2)) H → KR p l e _ s m _ below meth c _ _ _ _ 0 0 39 ls [.int (r_c_get 6 fo l4_5), .int en_, .ref yb] [] g A [(yb, .inr (ckI k9, [.int ynum, .int yar, .int ysk, .ref yr, .int ylc, .int ycr, .int yfl]))] (fun A => QI g A (fun r (_ : Unit) => True) (fun u : Unit => [(yb, .inr (ckI k9, [.int ynum, .int yar, .int ysk, .ref yr, .int ylc, .int ycr, .int yfl]))]))) (fun hP => (KR.monoI (fun _ _ _ => trivial) (rnV (As := [.int en_, .int (r_c_get 6 fo l4_5)]) (rest := []) (Cn := RX0) C (y0_isAt l g yb yr ynum yar ysk ylc ycr yfl en_ (r_c_get 6 fo l4_5)) 2 gX4_howManyAt_X0_isAt rfl (by decide +kernel) ⟨(Nat.le_of_ble_eq_true rfl), (Nat.le_of_ble_eq_true rfl)⟩ hP (k := 4) (ci := 0) rfl rfl rfl rfl hl.1 rfl (Nat.le_of_ble_eq_true rfl) dX4_howManyAt_39 ⟨(Nat.le_of_ble_eq_true rfl), (Nat.le_of_ble_eq_true rfl)⟩))) (fun hP => (KR.monoI (fun _ _ _ => trivial) (rnU (As := [.int en_, .int (r_c_get 6 fo l4_5)]) (rest := []) (Cn := RX2) C (y2_isAt l g yb yr ynum yar ysk ylc ycr yfl en_ (r_c_get 6 fo l4_5)) 2 gX4_howManyAt_X0_isAt_u50X2 rfl rfl (by decide +kernel) ⟨(Nat.le_of_ble_eq_true rfl), (Nat.le_of_ble_eq_true rfl)⟩ hP (k := 4) (ci := 2) rfl rfl rfl rfl hl.1 rfl (Nat.le_of_ble_eq_true rfl) dX4_howManyAt_39 ⟨(Nat.le_of_ble_eq_true rfl), (Nat.le_of_ble_eq_true rfl)⟩))) (fun hP => (KR.monoI (fun _ _ _ => trivial) (rnU (As := [.int en_, .int (r_c_get 6 fo l4_5)]) (rest := []) (Cn := RX10) C (y10_isAt l g yb yr ynum yar ysk ylc ycr yfl en_ (r_c_get 6 fo l4_5)) 2 gX4_howManyAt_X0_isAt_u50X10 rfl rfl (by decide +kernel) ⟨(Nat.le_of_ble_eq_true rfl), (Nat.le_of_ble_eq_true rfl)⟩ hP (k := 4) (ci := 10) rfl rfl rfl rfl hl.1 rfl (Nat.le_of_ble_eq_true rfl) dX4_howManyAt_39 ⟨(Nat.le_of_ble_eq_true rfl), (Nat.le_of_ble_eq_true rfl)⟩))) yk hP) (spM (X := [(pl, .inr (4, [.int gv, .int lim, .ref ca, .int cnt, .ref la])), (ca, .inl (g.2 3, 6, .inr (.inr (.inr (.inr fc))))), (sa, .inr (7, [.ref so, .ref sv, .ref sb, .ref ss, .int wt])), (so, .inl (g.2 0, 6, .inl fo)), (yb, .inr (ckI yk, [.int ynum, .int yar, .int ysk, .ref yr, .int ylc, .int ycr, .int yfl])), (yr, .inl (g.2 0, 10, .inl yrow))]) (pl := (cysW g l1 ++ cysW g l2)) [false, false, false, false, true, false] hP hD rfl) hA hS (fun r8 u7 H locs hw hP hD hS => ?_)
  replace hP : va_P g.1 vwCl ([(pl, .inr (4, [.int gv, .int lim, .ref ca, .int cnt, .ref la])), (ca, .inl (g.2 3, 6, .inr (.inr (.inr (.inr fc))))), (sa, .inr (7, [.ref so, .ref sv, .ref sb, .ref ss, .int wt])), (so, .inl (g.2 0, 6, .inl fo)), (yb, .inr (ckI yk, [.int ynum, .int yar, .int ysk, .ref yr, .int ylc, .int ycr, .int yfl])), (yr, .inl (g.2 0, 10, .inl yrow))] ++ (cysW g l1 ++ cysW g l2)) H := hP
  replace hD : va_D A ([(pl, .inr (4, [.int gv, .int lim, .ref ca, .int cnt, .ref la])), (ca, .inl (g.2 3, 6, .inr (.inr (.inr (.inr fc))))), (sa, .inr (7, [.ref so, .ref sv, .ref sb, .ref ss, .int wt])), (so, .inl (g.2 0, 6, .inl fo)), (yb, .inr (ckI yk, [.int ynum, .int yar, .int ysk, .ref yr, .int ylc, .int ycr, .int yfl])), (yr, .inl (g.2 0, 10, .inl yrow))] ++ (cysW g l1 ++ cysW g l2)) := hD
  refine lv_if_eq (tgt := 48) hx hb dX4_howManyAt_42 (by decide) (fun c9 => ?_) (fun c9 => ?_)
  · refine lv_iinc (v := (l4_5 + 1)) (lv' := [(4, .int (l4_5 + 1)), (5, .ref yb), (3, .int l3_5), (0, .ref pl), (1, .int en_), (2, .ref sa)]) hx hb dX4_howManyAt_48 hl (k := 1) rfl rfl (by decide) rfl (fun ls hl => ?_)
    refine lv_goto (tgt := 5) hx hb dX4_howManyAt_51 (by decide) ?_
    replace hP : va_P g.1 vwCl ([(pl, .inr (4, [.int gv, .int lim, .ref ca, .int cnt, .ref la])), (ca, .inl (g.2 3, 6, .inr (.inr (.inr (.inr fc))))), (sa, .inr (7, [.ref so, .ref sv, .ref sb, .ref ss, .int wt])), (so, .inl (g.2 0, 6, .inl fo))] ++ cysW g (l1 ++ (yb, yr, yk, ynum, yar, ysk, ylc, ycr, yfl, yrow) :: l2)) H := cys_joinP (X := [(pl, .inr (4, [.int gv, .int lim, .ref ca, .int cnt, .ref la])), (ca, .inl (g.2 3, 6, .inr (.inr (.inr (.inr fc))))), (sa, .inr (7, [.ref so, .ref sv, .ref sb, .ref ss, .int wt])), (so, .inl (g.2 0, 6, .inl fo))]) (y := (yb, yr, yk, ynum, yar, ysk, ylc, ycr, yfl, yrow)) (hP.part [0, 1, 2, 3, 4, 5] rfl)
    replace hD : va_D A ([(pl, .inr (4, [.int gv, .int lim, .ref ca, .int cnt, .ref la])), (ca, .inl (g.2 3, 6, .inr (.inr (.inr (.inr fc))))), (sa, .inr (7, [.ref so, .ref sv, .ref sb, .ref ss, .int wt])), (so, .inl (g.2 0, 6, .inl fo))] ++ cysW g (l1 ++ (yb, yr, yk, ynum, yar, ysk, ylc, ycr, yfl, yrow) :: l2)) := cys_joinD (X := [(pl, .inr (4, [.int gv, .int lim, .ref ca, .int cnt, .ref la])), (ca, .inl (g.2 3, 6, .inr (.inr (.inr (.inr fc))))), (sa, .inr (7, [.ref so, .ref sv, .ref sb, .ref ss, .int wt])), (so, .inl (g.2 0, 6, .inl fo))]) (y := (yb, yr, yk, ynum, yar, ysk, ylc, ycr, yfl, yrow)) (hD.part [0, 1, 2, 3, 4, 5] rfl rfl)
    replace hP := zk_csP hcse.symm hP; replace hD := zk_csD hcse.symm hD
    exact ih5 ((l4_5 + 1), l3_5) ls H locs ⟨lv_sub hl [0, 2, 3, 4, 5] rfl, hP, hD, hS⟩ (inc_mu2 c1)
  refine lv_iinc (v := (l3_5 + 1)) (lv' := [(3, .int (l3_5 + 1)), (5, .ref yb), (4, .int l4_5), (0, .ref pl), (1, .int en_), (2, .ref sa)]) hx hb dX4_howManyAt_45 hl (k := 2) rfl rfl (by decide) rfl (fun ls hl => ?_)
  refine lv_iinc (v := (l4_5 + 1)) (lv' := [(4, .int (l4_5 + 1)), (3, .int (l3_5 + 1)), (5, .ref yb), (0, .ref pl), (1, .int en_), (2, .ref sa)]) hx hb dX4_howManyAt_48 hl (k := 2) rfl rfl (by decide) rfl (fun ls hl => ?_)
  refine lv_goto (tgt := 5) hx hb dX4_howManyAt_51 (by decide) ?_
  replace hP : va_P g.1 vwCl ([(pl, .inr (4, [.int gv, .int lim, .ref ca, .int cnt, .ref la])), (ca, .inl (g.2 3, 6, .inr (.inr (.inr (.inr fc))))), (sa, .inr (7, [.ref so, .ref sv, .ref sb, .ref ss, .int wt])), (so, .inl (g.2 0, 6, .inl fo))] ++ cysW g (l1 ++ (yb, yr, yk, ynum, yar, ysk, ylc, ycr, yfl, yrow) :: l2)) H := cys_joinP (X := [(pl, .inr (4, [.int gv, .int lim, .ref ca, .int cnt, .ref la])), (ca, .inl (g.2 3, 6, .inr (.inr (.inr (.inr fc))))), (sa, .inr (7, [.ref so, .ref sv, .ref sb, .ref ss, .int wt])), (so, .inl (g.2 0, 6, .inl fo))]) (y := (yb, yr, yk, ynum, yar, ysk, ylc, ycr, yfl, yrow)) (hP.part [0, 1, 2, 3, 4, 5] rfl)
  replace hD : va_D A ([(pl, .inr (4, [.int gv, .int lim, .ref ca, .int cnt, .ref la])), (ca, .inl (g.2 3, 6, .inr (.inr (.inr (.inr fc))))), (sa, .inr (7, [.ref so, .ref sv, .ref sb, .ref ss, .int wt])), (so, .inl (g.2 0, 6, .inl fo))] ++ cysW g (l1 ++ (yb, yr, yk, ynum, yar, ysk, ylc, ycr, yfl, yrow) :: l2)) := cys_joinD (X := [(pl, .inr (4, [.int gv, .int lim, .ref ca, .int cnt, .ref la])), (ca, .inl (g.2 3, 6, .inr (.inr (.inr (.inr fc))))), (sa, .inr (7, [.ref so, .ref sv, .ref sb, .ref ss, .int wt])), (so, .inl (g.2 0, 6, .inl fo))]) (y := (yb, yr, yk, ynum, yar, ysk, ylc, ycr, yfl, yrow)) (hD.part [0, 1, 2, 3, 4, 5] rfl rfl)
  replace hP := zk_csP hcse.symm hP; replace hD := zk_csD hcse.symm hD
  exact ih5 ((l4_5 + 1), (l3_5 + 1)) ls H locs ⟨lv_sub hl [0, 1, 3, 4, 5] rfl, hP, hD, hS⟩ (inc_mu2 c1)
theorem hc_X11_told_X11 : ∀ w ∈ wsX110, w ∈ wsX11_told := fun w h => List.mem_cons_of_mem _ (List.mem_append_left _ (List.mem_append_left _ (List.mem_append_left _ (List.mem_append_left _ (List.mem_append_left _ (List.mem_append_left _ (List.mem_append_left _ (List.mem_append_right _ h))))))))
theorem hc_X11_told_X3 : ∀ w ∈ wsX30, w ∈ wsX11_told := fun w h => List.mem_cons_of_mem _ (List.mem_append_left _ (List.mem_append_left _ (List.mem_append_left _ (List.mem_append_left _ (List.mem_append_left _ (List.mem_append_right _ h))))))
theorem hc_X11_told_X4 : ∀ w ∈ wsX40, w ∈ wsX11_told := fun w h => List.mem_cons_of_mem _ (List.mem_append_left _ (List.mem_append_left _ (List.mem_append_left _ (List.mem_append_left _ (List.mem_append_left _ (List.mem_append_left _ (List.mem_append_right _ h)))))))
theorem hc_X11_told_X5 : ∀ w ∈ wsX50, w ∈ wsX11_told := fun w h => List.mem_cons_of_mem _ (List.mem_append_left _ (List.mem_append_left _ (List.mem_append_left _ (List.mem_append_left _ (List.mem_append_right _ h)))))
set_option maxRecDepth 100000 in
set_option maxHeartbeats 4000000 in
theorem x_told (l : Launch) (g : Gt) (h0 : Nat) (sha : Nat) (tra : Nat) (lf : Int32) (std : Int32) (tkd : Int32) (tck : Int32) (sa : Nat) (ea : Nat) (oa : Nat) (tsa : Nat) (usa : Nat) (vea : Nat) (lka : Nat) (ra : Nat) (pl : Nat) (gv : Int32) (lim : Int32) (ca : Nat) (cnt : Int32) (la : Nat) (fc : Nat → Option Nat) (so : Nat) (sv : Nat) (sb : Nat) (ss : Nat) (wt : Int32) (fo : Nat → Int32) (ow : Nat) (oe : Nat) (ot : Nat) (ov : Nat) (oc : Int32) (rt : Nat) (ro : Nat) (rx : Nat) (rc : Int32) (what : Int32) (cs : List Cy) (hcs : CS cs cnt fc) : Ctr l g yX11_told wsX11_told ({ frames := 3, cells := 0, slots := 0, locals := 67 } : Room) [.ref h0, .int what] ([(h0, .inr (11, [.ref pl, .ref sa, .ref ea, .ref oa, .ref tsa, .ref usa, .ref vea, .ref lka, .ref ra, .ref sha, .ref tra, .int lf, .int std, .int tkd, .int tck])), (pl, .inr (4, [.int gv, .int lim, .ref ca, .int cnt, .ref la])), (ca, .inl (g.2 3, 6, .inr (.inr (.inr (.inr fc))))), (oa, .inr (3, [.ref ow, .ref oe, .ref ot, .ref ov, .int oc])), (ra, .inr (5, [.ref rt, .ref ro, .ref rx, .int rc])), (sa, .inr (7, [.ref so, .ref sv, .ref sb, .ref ss, .int wt])), (so, .inl (g.2 0, 6, .inl fo))] ++ cysW g cs) (fun A => QI g A (fun r (u : Unit) => True) (fun (u : Unit) => ([(h0, .inr (11, [.ref pl, .ref sa, .ref ea, .ref oa, .ref tsa, .ref usa, .ref vea, .ref lka, .ref ra, .ref sha, .ref tra, .int lf, .int std, .int tkd, .int tck])), (pl, .inr (4, [.int gv, .int lim, .ref ca, .int cnt, .ref la])), (ca, .inl (g.2 3, 6, .inr (.inr (.inr (.inr fc))))), (oa, .inr (3, [.ref ow, .ref oe, .ref ot, .ref ov, .int oc])), (ra, .inr (5, [.ref rt, .ref ro, .ref rx, .int rc])), (sa, .inr (7, [.ref so, .ref sv, .ref sb, .ref ss, .int wt])), (so, .inl (g.2 0, 6, .inl fo))] ++ cysW g cs))) := by
  refine Ctr.of (cc := cX11_told) (maxL := 2) (ret := (some .int)) (by decide) rfl (Nat.le_of_ble_eq_true rfl) ?_
  intro p e s m below meth c A ls H C hP hD hA hS hl
  obtain ⟨hx, hb, hr, hts, hown, hlocks, hml, hin, hKN⟩ := id C
  have hK := hKN.1
  have hN := hKN.2
  have F : CallFix p m c cX11_told 2 s _ wsX11_told yX11_told.cls := ⟨hx, hb, hml, hown, hts⟩
  have hl : lv_has ls 2 [(0, .ref h0), (1, .int what)] := hl
  refine lv_iload_n hx hb dX11_told_0 rfl (lv_at hl 1 rfl) ?_
  by_cases w1 : what = 0
  · refine lv_tableIn (tgt := 40) (off := 39) hx hb dX11_told_1 (by rw [w1]; decide) (by rw [w1]; decide) (by rw [w1]; rfl) (by decide) ?_
    refine lv_aload_n hx hb dX11_told_40 rfl (lv_at hl 0 rfl) ?_
    refine va_get (D := g.1) (ci := 11) (v := .ref pl) (C := RX11) (T := TX11) (N := 15) hx hb hts hc_X11_told_X11 hown hK hP 0 rfl rfl 0 (by decide) (hts (.fieldLink RX11 12 "OilPush" "plant" "LOilPush$Plant;") (List.mem_of_getElem? (i := 1) rfl)) (fun _ h => h) rfl dX11_told_41 ?_
    refine va_get (D := g.1) (ci := 4) (v := .int cnt) (C := RX4) (T := TX4) (N := 5) hx hb hts hc_X11_told_X4 hown hK hP 1 rfl rfl 3 (by decide) (hts (.fieldLink RX11 87 "OilPush$Plant" "count" "I") (List.mem_of_getElem? (i := 2) rfl)) (fun _ h => h) rfl dX11_told_44 ?_
    exact retI C hS () trivial hP hD (Nat.le_of_ble_eq_true rfl) (Nat.le_of_ble_eq_true rfl) dX11_told_47
  by_cases w2 : what = 1
  · refine lv_tableIn (tgt := 48) (off := 47) hx hb dX11_told_1 (by rw [w2]; decide) (by rw [w2]; decide) (by rw [w2]; rfl) (by decide) ?_
    refine lv_aload_n hx hb dX11_told_48 rfl (lv_at hl 0 rfl) ?_
    refine va_get (D := g.1) (ci := 11) (v := .ref oa) (C := RX11) (T := TX11) (N := 15) hx hb hts hc_X11_told_X11 hown hK hP 0 rfl rfl 3 (by decide) (hts (.fieldLink RX11 35 "OilPush" "orders" "LOilPush$Orders;") (List.mem_of_getElem? (i := 3) rfl)) (fun _ h => h) rfl dX11_told_49 ?_
    refine va_get (D := g.1) (ci := 3) (v := .int oc) (C := RX3) (T := TX3) (N := 5) hx hb hts hc_X11_told_X3 hown hK hP 3 rfl rfl 4 (by decide) (hts (.fieldLink RX11 244 "OilPush$Orders" "count" "I") (List.mem_of_getElem? (i := 4) rfl)) (fun _ h => h) rfl dX11_told_52 ?_
    exact retI C hS () trivial hP hD (Nat.le_of_ble_eq_true rfl) (Nat.le_of_ble_eq_true rfl) dX11_told_55
  by_cases w3 : what = 2
  · refine lv_tableIn (tgt := 56) (off := 55) hx hb dX11_told_1 (by rw [w3]; decide) (by rw [w3]; decide) (by rw [w3]; rfl) (by decide) ?_
    refine lv_aload_n hx hb dX11_told_56 rfl (lv_at hl 0 rfl) ?_
    refine va_get (D := g.1) (ci := 11) (v := .ref ra) (C := RX11) (T := TX11) (N := 15) hx hb hts hc_X11_told_X11 hown hK hP 0 rfl rfl 8 (by decide) (hts (.fieldLink RX11 55 "OilPush" "readings" "LOilPush$Readings;") (List.mem_of_getElem? (i := 5) rfl)) (fun _ h => h) rfl dX11_told_57 ?_
    refine va_get (D := g.1) (ci := 5) (v := .int rc) (C := RX5) (T := TX5) (N := 4) hx hb hts hc_X11_told_X5 hown hK hP 4 rfl rfl 3 (by decide) (hts (.fieldLink RX11 256 "OilPush$Readings" "count" "I") (List.mem_of_getElem? (i := 6) rfl)) (fun _ h => h) rfl dX11_told_60 ?_
    exact retI C hS () trivial hP hD (Nat.le_of_ble_eq_true rfl) (Nat.le_of_ble_eq_true rfl) dX11_told_63
  by_cases w4 : what = 3
  · refine lv_tableIn (tgt := 64) (off := 63) hx hb dX11_told_1 (by rw [w4]; decide) (by rw [w4]; decide) (by rw [w4]; rfl) (by decide) ?_
    refine lv_aload_n hx hb dX11_told_64 rfl (lv_at hl 0 rfl) ?_
    refine va_get (D := g.1) (ci := 11) (v := .int tck) (C := RX11) (T := TX11) (N := 15) hx hb hts hc_X11_told_X11 hown hK hP 0 rfl rfl 14 (by decide) (hts (.fieldLink RX11 197 "OilPush" "ticks" "I") (List.mem_of_getElem? (i := 7) rfl)) (fun _ h => h) rfl dX11_told_65 ?_
    exact retI C hS () trivial hP hD (Nat.le_of_ble_eq_true rfl) (Nat.le_of_ble_eq_true rfl) dX11_told_68
  by_cases w5 : what = 4
  · refine lv_tableIn (tgt := 69) (off := 68) hx hb dX11_told_1 (by rw [w5]; decide) (by rw [w5]; decide) (by rw [w5]; rfl) (by decide) ?_
    refine lv_aload_n hx hb dX11_told_69 rfl (lv_at hl 0 rfl) ?_
    refine va_get (D := g.1) (ci := 11) (v := .ref pl) (C := RX11) (T := TX11) (N := 15) hx hb hts hc_X11_told_X11 hown hK hP 0 rfl rfl 0 (by decide) (hts (.fieldLink RX11 12 "OilPush" "plant" "LOilPush$Plant;") (List.mem_of_getElem? (i := 1) rfl)) (fun _ h => h) rfl dX11_told_70 ?_
    refine lv_iconst (v := 1) hx hb dX11_told_73 (by decide) ?_
    refine lv_aload_n hx hb dX11_told_74 rfl (lv_at hl 0 rfl) ?_
    refine va_get (D := g.1) (ci := 11) (v := .ref sa) (C := RX11) (T := TX11) (N := 15) hx hb hts hc_X11_told_X11 hown hK hP 0 rfl rfl 1 (by decide) (hts (.fieldLink RX11 21 "OilPush" "now" "LOilPush$State;") (List.mem_of_getElem? (i := 8) rfl)) (fun _ h => h) rfl dX11_told_75 ?_
    refine kI (rnV (As := [.int 1, .ref sa]) (rest := []) (Cn := RX4) C (p_howMany l g pl gv lim ca cnt la fc 1 sa so sv sb ss wt fo cs hcs) 2 gX11_told_X4_howManyAt rfl (by decide +kernel) ⟨(Nat.le_of_ble_eq_true rfl), (Nat.le_of_ble_eq_true rfl)⟩ hP (k := 1) (ci := 4) rfl rfl rfl rfl hl.1 rfl (Nat.le_of_ble_eq_true rfl) dX11_told_78 ⟨(Nat.le_of_ble_eq_true rfl), (Nat.le_of_ble_eq_true rfl)⟩) (spMC (X := [(h0, .inr (11, [.ref pl, .ref sa, .ref ea, .ref oa, .ref tsa, .ref usa, .ref vea, .ref lka, .ref ra, .ref sha, .ref tra, .int lf, .int std, .int tkd, .int tck])), (pl, .inr (4, [.int gv, .int lim, .ref ca, .int cnt, .ref la])), (ca, .inl (g.2 3, 6, .inr (.inr (.inr (.inr fc))))), (oa, .inr (3, [.ref ow, .ref oe, .ref ot, .ref ov, .int oc])), (ra, .inr (5, [.ref rt, .ref ro, .ref rx, .int rc])), (sa, .inr (7, [.ref so, .ref sv, .ref sb, .ref ss, .int wt])), (so, .inl (g.2 0, 6, .inl fo))]) (pl := cysW g cs) [false, true, true, false, false, true, true] hP hD rfl) hA hS (fun r6 u7 H locs hw hP hD hS => ?_)
    replace hP : va_P g.1 vwCl ([(h0, .inr (11, [.ref pl, .ref sa, .ref ea, .ref oa, .ref tsa, .ref usa, .ref vea, .ref lka, .ref ra, .ref sha, .ref tra, .int lf, .int std, .int tkd, .int tck])), (pl, .inr (4, [.int gv, .int lim, .ref ca, .int cnt, .ref la])), (ca, .inl (g.2 3, 6, .inr (.inr (.inr (.inr fc))))), (oa, .inr (3, [.ref ow, .ref oe, .ref ot, .ref ov, .int oc])), (ra, .inr (5, [.ref rt, .ref ro, .ref rx, .int rc])), (sa, .inr (7, [.ref so, .ref sv, .ref sb, .ref ss, .int wt])), (so, .inl (g.2 0, 6, .inl fo))] ++ cysW g cs) H := hP
    replace hD : va_D A ([(h0, .inr (11, [.ref pl, .ref sa, .ref ea, .ref oa, .ref tsa, .ref usa, .ref vea, .ref lka, .ref ra, .ref sha, .ref tra, .int lf, .int std, .int tkd, .int tck])), (pl, .inr (4, [.int gv, .int lim, .ref ca, .int cnt, .ref la])), (ca, .inl (g.2 3, 6, .inr (.inr (.inr (.inr fc))))), (oa, .inr (3, [.ref ow, .ref oe, .ref ot, .ref ov, .int oc])), (ra, .inr (5, [.ref rt, .ref ro, .ref rx, .int rc])), (sa, .inr (7, [.ref so, .ref sv, .ref sb, .ref ss, .int wt])), (so, .inl (g.2 0, 6, .inl fo))] ++ cysW g cs) := hD
    exact retI C hS () trivial hP hD (Nat.le_of_ble_eq_true rfl) (Nat.le_of_ble_eq_true rfl) dX11_told_81
  by_cases w8 : what = 5
  · refine lv_tableIn (tgt := 82) (off := 81) hx hb dX11_told_1 (by rw [w8]; decide) (by rw [w8]; decide) (by rw [w8]; rfl) (by decide) ?_
    refine lv_aload_n hx hb dX11_told_82 rfl (lv_at hl 0 rfl) ?_
    refine va_get (D := g.1) (ci := 11) (v := .ref pl) (C := RX11) (T := TX11) (N := 15) hx hb hts hc_X11_told_X11 hown hK hP 0 rfl rfl 0 (by decide) (hts (.fieldLink RX11 12 "OilPush" "plant" "LOilPush$Plant;") (List.mem_of_getElem? (i := 1) rfl)) (fun _ h => h) rfl dX11_told_83 ?_
    refine lv_iconst (v := 2) hx hb dX11_told_86 (by decide) ?_
    refine lv_aload_n hx hb dX11_told_87 rfl (lv_at hl 0 rfl) ?_
    refine va_get (D := g.1) (ci := 11) (v := .ref sa) (C := RX11) (T := TX11) (N := 15) hx hb hts hc_X11_told_X11 hown hK hP 0 rfl rfl 1 (by decide) (hts (.fieldLink RX11 21 "OilPush" "now" "LOilPush$State;") (List.mem_of_getElem? (i := 8) rfl)) (fun _ h => h) rfl dX11_told_88 ?_
    refine kI (rnV (As := [.int 2, .ref sa]) (rest := []) (Cn := RX4) C (p_howMany l g pl gv lim ca cnt la fc 2 sa so sv sb ss wt fo cs hcs) 2 gX11_told_X4_howManyAt rfl (by decide +kernel) ⟨(Nat.le_of_ble_eq_true rfl), (Nat.le_of_ble_eq_true rfl)⟩ hP (k := 1) (ci := 4) rfl rfl rfl rfl hl.1 rfl (Nat.le_of_ble_eq_true rfl) dX11_told_91 ⟨(Nat.le_of_ble_eq_true rfl), (Nat.le_of_ble_eq_true rfl)⟩) (spMC (X := [(h0, .inr (11, [.ref pl, .ref sa, .ref ea, .ref oa, .ref tsa, .ref usa, .ref vea, .ref lka, .ref ra, .ref sha, .ref tra, .int lf, .int std, .int tkd, .int tck])), (pl, .inr (4, [.int gv, .int lim, .ref ca, .int cnt, .ref la])), (ca, .inl (g.2 3, 6, .inr (.inr (.inr (.inr fc))))), (oa, .inr (3, [.ref ow, .ref oe, .ref ot, .ref ov, .int oc])), (ra, .inr (5, [.ref rt, .ref ro, .ref rx, .int rc])), (sa, .inr (7, [.ref so, .ref sv, .ref sb, .ref ss, .int wt])), (so, .inl (g.2 0, 6, .inl fo))]) (pl := cysW g cs) [false, true, true, false, false, true, true] hP hD rfl) hA hS (fun r9 u10 H locs hw hP hD hS => ?_)
    replace hP : va_P g.1 vwCl ([(h0, .inr (11, [.ref pl, .ref sa, .ref ea, .ref oa, .ref tsa, .ref usa, .ref vea, .ref lka, .ref ra, .ref sha, .ref tra, .int lf, .int std, .int tkd, .int tck])), (pl, .inr (4, [.int gv, .int lim, .ref ca, .int cnt, .ref la])), (ca, .inl (g.2 3, 6, .inr (.inr (.inr (.inr fc))))), (oa, .inr (3, [.ref ow, .ref oe, .ref ot, .ref ov, .int oc])), (ra, .inr (5, [.ref rt, .ref ro, .ref rx, .int rc])), (sa, .inr (7, [.ref so, .ref sv, .ref sb, .ref ss, .int wt])), (so, .inl (g.2 0, 6, .inl fo))] ++ cysW g cs) H := hP
    replace hD : va_D A ([(h0, .inr (11, [.ref pl, .ref sa, .ref ea, .ref oa, .ref tsa, .ref usa, .ref vea, .ref lka, .ref ra, .ref sha, .ref tra, .int lf, .int std, .int tkd, .int tck])), (pl, .inr (4, [.int gv, .int lim, .ref ca, .int cnt, .ref la])), (ca, .inl (g.2 3, 6, .inr (.inr (.inr (.inr fc))))), (oa, .inr (3, [.ref ow, .ref oe, .ref ot, .ref ov, .int oc])), (ra, .inr (5, [.ref rt, .ref ro, .ref rx, .int rc])), (sa, .inr (7, [.ref so, .ref sv, .ref sb, .ref ss, .int wt])), (so, .inl (g.2 0, 6, .inl fo))] ++ cysW g cs) := hD
    exact retI C hS () trivial hP hD (Nat.le_of_ble_eq_true rfl) (Nat.le_of_ble_eq_true rfl) dX11_told_94
  refine lv_tableOut (tgt := 95) hx hb dX11_told_1 (sw5 w1 w2 w3 w4 w5 w8) (by decide) ?_
  refine lv_bipush (v := -2) hx hb dX11_told_95 (by decide) ?_
  exact retI C hS () trivial hP hD (Nat.le_of_ble_eq_true rfl) (Nat.le_of_ble_eq_true rfl) dX11_told_97
