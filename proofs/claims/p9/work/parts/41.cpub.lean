theorem CS_same {l1 l2 cs : List Cy} {y y' : Cy} {cnt : Int32} {fc : Nat → Option Nat} (h : CS cs cnt fc) (e : cs = l1 ++ y :: l2) (hy : y'.1 = y.1) : CS (l1 ++ y' :: l2) cnt fc := by
  subst e
  obtain ⟨h1, h2, h3⟩ := h
  refine ⟨?_, ?_, ?_⟩
  · rw [h1]; simp
  · simp at h2 ⊢; exact h2
  · rw [h3, cysF_same l1 l2 y y' hy]
theorem hc_X11_pump_X11 : ∀ w ∈ wsX110, w ∈ wsX11_pump := fun w h => List.mem_cons_of_mem _ (List.mem_append_left _ (List.mem_append_right _ h))
theorem hc_X11_pump_X4 : ∀ w ∈ wsX40, w ∈ wsX11_pump := fun w h => List.mem_cons_of_mem _ (List.mem_append_right _ h)
def r_x_pump (gv : Int32) (lim : Int32) (what : Int32) (v : Int32) : Int32 := (if what = 0 then (if (r_c_within v 0 1000) = 0 then (-2) else gv) else (if what = 1 then (if (r_c_within v 1 1000) = 0 then (-2) else lim) else (-1)))
def o_x_pump_0 (gv : Int32) (what : Int32) (v : Int32) : Int32 := (if what = 0 then (if (r_c_within v 0 1000) = 0 then gv else v) else (if what = 1 then (if (r_c_within v 1 1000) = 0 then gv else gv) else gv))
def o_x_pump_1 (lim : Int32) (what : Int32) (v : Int32) : Int32 := (if what = 0 then (if (r_c_within v 0 1000) = 0 then lim else lim) else (if what = 1 then (if (r_c_within v 1 1000) = 0 then lim else v) else lim))
set_option maxRecDepth 100000 in
set_option maxHeartbeats 4000000 in
theorem x_pump (l : Launch) (g : Gt) (h0 : Nat) (sha : Nat) (tra : Nat) (lf : Int32) (std : Int32) (tkd : Int32) (tck : Int32) (sa : Nat) (ea : Nat) (oa : Nat) (tsa : Nat) (usa : Nat) (vea : Nat) (lka : Nat) (ra : Nat) (pl : Nat) (gv : Int32) (lim : Int32) (ca : Nat) (cnt : Int32) (la : Nat) (what : Int32) (v : Int32)  : Ctr l g yX11_pump wsX11_pump ({ frames := 1, cells := 0, slots := 0, locals := 22 } : Room) [.ref h0, .int what, .int v] [(h0, .inr (11, [.ref pl, .ref sa, .ref ea, .ref oa, .ref tsa, .ref usa, .ref vea, .ref lka, .ref ra, .ref sha, .ref tra, .int lf, .int std, .int tkd, .int tck])), (pl, .inr (4, [.int gv, .int lim, .ref ca, .int cnt, .ref la]))] (fun A => QI g A (fun r (_ : Unit) => r = (r_x_pump gv lim what v)) (fun _u : Unit => [(h0, .inr (11, [.ref pl, .ref sa, .ref ea, .ref oa, .ref tsa, .ref usa, .ref vea, .ref lka, .ref ra, .ref sha, .ref tra, .int lf, .int std, .int tkd, .int tck])), (pl, .inr (4, [.int (o_x_pump_0 gv what v), .int (o_x_pump_1 lim what v), .ref ca, .int cnt, .ref la]))])) := by
  refine Ctr.of (cc := cX11_pump) (maxL := 4) (ret := (some .int)) (by decide) rfl (Nat.le_of_ble_eq_true rfl) ?_
  intro p e s m below meth c A ls H C hP hD hA hS hl
  obtain ⟨hx, hb, hr, hts, hown, hlocks, hml, hin, hKN⟩ := id C
  have hK := hKN.1
  have hN := hKN.2
  have F : CallFix p m c cX11_pump 4 s _ wsX11_pump yX11_pump.cls := ⟨hx, hb, hml, hown, hts⟩
  have hl : lv_has ls 4 [(0, .ref h0), (1, .int what), (2, .int v)] := hl
  refine lv_iload_n hx hb dX11_pump_0 rfl (lv_at hl 1 rfl) ?_
  refine lv_if_eq (tgt := 11) hx hb dX11_pump_1 (by decide) (fun c1 => ?_) (fun c1 => ?_)
  · refine lv_iload_n hx hb dX11_pump_11 rfl (lv_at hl 2 rfl) ?_
    refine lv_iload_n hx hb dX11_pump_12 rfl (lv_at hl 1 rfl) ?_
    refine lv_if_ne (tgt := 20) hx hb dX11_pump_13 (by decide) (fun cc0 => absurd c1 cc0) (fun _ => ?_)
    refine lv_iconst (v := 0) hx hb dX11_pump_16 (by decide) ?_
    refine lv_goto (tgt := 21) hx hb dX11_pump_17 (by decide) ?_
    refine lv_sipush (v := 1000) hx hb dX11_pump_21 (by decide) ?_
    refine pureIS (As := [.int v, .int 0, .int 1000]) (rest := []) F (c_within l v 0 1000) 3 gX11_pump_X11_within rfl (by decide +kernel) rfl rfl ⟨(Nat.le_of_ble_eq_true rfl), (Nat.le_of_ble_eq_true rfl)⟩ (Nat.le_of_ble_eq_true rfl) (Nat.le_of_ble_eq_true rfl) rfl hl.1 rfl (Nat.le_of_ble_eq_true rfl) dX11_pump_24 ?_
    refine lv_if_ne (tgt := 33) hx hb dX11_pump_27 (by decide) (fun c2 => ?_) (fun c2 => ?_)
    · refine lv_iload_n hx hb dX11_pump_33 rfl (lv_at hl 1 rfl) ?_
      refine lv_if_ne (tgt := 47) hx hb dX11_pump_34 (by decide) (fun cc0 => absurd c1 cc0) (fun _ => ?_)
      refine lv_aload_n hx hb dX11_pump_37 rfl (lv_at hl 0 rfl) ?_
      refine va_get (D := g.1) (ci := 11) (v := .ref pl) (C := RX11) (T := TX11) (N := 15) hx hb hts hc_X11_pump_X11 hown hK hP 0 rfl rfl 0 (by decide) (hts (.fieldLink RX11 12 "OilPush" "plant" "LOilPush$Plant;") (List.mem_of_getElem? (i := 1) rfl)) (fun _ h => h) rfl dX11_pump_38 ?_
      refine va_get (D := g.1) (ci := 4) (v := .int gv) (C := RX4) (T := TX4) (N := 5) hx hb hts hc_X11_pump_X4 hown hK hP 1 rfl rfl 0 (by decide) (hts (.fieldLink RX11 77 "OilPush$Plant" "gives" "I") (List.mem_of_getElem? (i := 2) rfl)) (fun _ h => h) rfl dX11_pump_41 ?_
      refine lv_goto (tgt := 54) hx hb dX11_pump_44 (by decide) ?_
      refine lv_istore_n (lv' := [(3, .int gv), (0, .ref h0), (1, .int what), (2, .int v)]) hx hb dX11_pump_54 rfl hl (by decide) rfl (fun ls hl => ?_)
      refine lv_iload_n hx hb dX11_pump_55 rfl (lv_at hl 2 rfl) ?_
      refine lv_if_ne (tgt := 70) hx hb dX11_pump_56 (by decide) (fun cc0 => absurd c1 cc0) (fun _ => ?_)
      refine lv_aload_n hx hb dX11_pump_59 rfl (lv_at hl 1 rfl) ?_
      refine va_get (D := g.1) (ci := 11) (v := .ref pl) (C := RX11) (T := TX11) (N := 15) hx hb hts hc_X11_pump_X11 hown hK hP 0 rfl rfl 0 (by decide) (hts (.fieldLink RX11 12 "OilPush" "plant" "LOilPush$Plant;") (List.mem_of_getElem? (i := 1) rfl)) (fun _ h => h) rfl dX11_pump_60 ?_
      refine lv_iload_n hx hb dX11_pump_63 rfl (lv_at hl 3 rfl) ?_
      refine va_put (D := g.1) (ci := 4) (v := .int v) (ty := .int) (C := RX4) (T := TX4) (N := 5) hx hb hts hc_X11_pump_X4 tyX4 tyX4_ok nmX4 hown hK hP hD hS 1 rfl rfl 0 (by decide) (hts (.fieldLink RX11 77 "OilPush$Plant" "gives" "I") (List.mem_of_getElem? (i := 2) rfl)) (fun _ h => h) rfl (by decide +kernel) rfl rfl (Nat.le_of_ble_eq_true rfl) dX11_pump_64 (fun H locs hP hD hS => ?_)
      replace hP : va_P g.1 vwCl [(h0, .inr (11, [.ref pl, .ref sa, .ref ea, .ref oa, .ref tsa, .ref usa, .ref vea, .ref lka, .ref ra, .ref sha, .ref tra, .int lf, .int std, .int tkd, .int tck])), (pl, .inr (4, [.int v, .int lim, .ref ca, .int cnt, .ref la]))] H := hP
      replace hD : va_D A [(h0, .inr (11, [.ref pl, .ref sa, .ref ea, .ref oa, .ref tsa, .ref usa, .ref vea, .ref lka, .ref ra, .ref sha, .ref tra, .int lf, .int std, .int tkd, .int tck])), (pl, .inr (4, [.int v, .int lim, .ref ca, .int cnt, .ref la]))] := hD
      refine lv_goto (tgt := 78) hx hb dX11_pump_67 (by decide) ?_
      refine lv_iload_n hx hb dX11_pump_78 rfl (lv_at hl 0 rfl) ?_
      have e90 : (o_x_pump_0 gv what v) = v := by unfold o_x_pump_0; rw [if_pos c1, if_neg c2]
      have e91 : (o_x_pump_1 lim what v) = lim := by unfold o_x_pump_1; rw [if_pos c1, if_neg c2]
      have hP : va_P g.1 vwCl [(h0, .inr (11, [.ref pl, .ref sa, .ref ea, .ref oa, .ref tsa, .ref usa, .ref vea, .ref lka, .ref ra, .ref sha, .ref tra, .int lf, .int std, .int tkd, .int tck])), (pl, .inr (4, [.int (o_x_pump_0 gv what v), .int (o_x_pump_1 lim what v), .ref ca, .int cnt, .ref la]))] H := by rw [e90, e91]; exact hP
      have hD : va_D A [(h0, .inr (11, [.ref pl, .ref sa, .ref ea, .ref oa, .ref tsa, .ref usa, .ref vea, .ref lka, .ref ra, .ref sha, .ref tra, .int lf, .int std, .int tkd, .int tck])), (pl, .inr (4, [.int (o_x_pump_0 gv what v), .int (o_x_pump_1 lim what v), .ref ca, .int cnt, .ref la]))] := by rw [e90, e91]; exact hD
      exact retI C hS () (by unfold r_x_pump; rw [if_pos c1, if_neg c2]) (hP.pick [0, 1] rfl) (hD.sub [0, 1] rfl rfl) (Nat.le_of_ble_eq_true rfl) (Nat.le_of_ble_eq_true rfl) dX11_pump_79
    refine lv_bipush (v := -2) hx hb dX11_pump_30 (by decide) ?_
    have e90 : (o_x_pump_0 gv what v) = gv := by unfold o_x_pump_0; rw [if_pos c1, if_pos c2]
    have e91 : (o_x_pump_1 lim what v) = lim := by unfold o_x_pump_1; rw [if_pos c1, if_pos c2]
    have hP : va_P g.1 vwCl [(h0, .inr (11, [.ref pl, .ref sa, .ref ea, .ref oa, .ref tsa, .ref usa, .ref vea, .ref lka, .ref ra, .ref sha, .ref tra, .int lf, .int std, .int tkd, .int tck])), (pl, .inr (4, [.int (o_x_pump_0 gv what v), .int (o_x_pump_1 lim what v), .ref ca, .int cnt, .ref la]))] H := by rw [e90, e91]; exact hP
    have hD : va_D A [(h0, .inr (11, [.ref pl, .ref sa, .ref ea, .ref oa, .ref tsa, .ref usa, .ref vea, .ref lka, .ref ra, .ref sha, .ref tra, .int lf, .int std, .int tkd, .int tck])), (pl, .inr (4, [.int (o_x_pump_0 gv what v), .int (o_x_pump_1 lim what v), .ref ca, .int cnt, .ref la]))] := by rw [e90, e91]; exact hD
    exact retI C hS () (by unfold r_x_pump; rw [if_pos c1, if_pos c2]) (hP.pick [0, 1] rfl) (hD.sub [0, 1] rfl rfl) (Nat.le_of_ble_eq_true rfl) (Nat.le_of_ble_eq_true rfl) dX11_pump_32
  refine lv_iload_n hx hb dX11_pump_4 rfl (lv_at hl 1 rfl) ?_
  refine lv_iconst (v := 1) hx hb dX11_pump_5 (by decide) ?_
  refine lv_icmp_eq (tgt := 11) hx hb dX11_pump_6 (by decide) (fun c3 => ?_) (fun c3 => ?_)
  · refine lv_iload_n hx hb dX11_pump_11 rfl (lv_at hl 2 rfl) ?_
    refine lv_iload_n hx hb dX11_pump_12 rfl (lv_at hl 1 rfl) ?_
    refine lv_if_ne (tgt := 20) hx hb dX11_pump_13 (by decide) (fun _ => ?_) (fun cc0 => absurd cc0 c1)
    refine lv_iconst (v := 1) hx hb dX11_pump_20 (by decide) ?_
    refine lv_sipush (v := 1000) hx hb dX11_pump_21 (by decide) ?_
    refine pureIS (As := [.int v, .int 1, .int 1000]) (rest := []) F (c_within l v 1 1000) 3 gX11_pump_X11_within rfl (by decide +kernel) rfl rfl ⟨(Nat.le_of_ble_eq_true rfl), (Nat.le_of_ble_eq_true rfl)⟩ (Nat.le_of_ble_eq_true rfl) (Nat.le_of_ble_eq_true rfl) rfl hl.1 rfl (Nat.le_of_ble_eq_true rfl) dX11_pump_24 ?_
    refine lv_if_ne (tgt := 33) hx hb dX11_pump_27 (by decide) (fun c4 => ?_) (fun c4 => ?_)
    · refine lv_iload_n hx hb dX11_pump_33 rfl (lv_at hl 1 rfl) ?_
      refine lv_if_ne (tgt := 47) hx hb dX11_pump_34 (by decide) (fun _ => ?_) (fun cc0 => absurd cc0 c1)
      refine lv_aload_n hx hb dX11_pump_47 rfl (lv_at hl 0 rfl) ?_
      refine va_get (D := g.1) (ci := 11) (v := .ref pl) (C := RX11) (T := TX11) (N := 15) hx hb hts hc_X11_pump_X11 hown hK hP 0 rfl rfl 0 (by decide) (hts (.fieldLink RX11 12 "OilPush" "plant" "LOilPush$Plant;") (List.mem_of_getElem? (i := 1) rfl)) (fun _ h => h) rfl dX11_pump_48 ?_
      refine va_get (D := g.1) (ci := 4) (v := .int lim) (C := RX4) (T := TX4) (N := 5) hx hb hts hc_X11_pump_X4 hown hK hP 1 rfl rfl 1 (by decide) (hts (.fieldLink RX11 81 "OilPush$Plant" "limit" "I") (List.mem_of_getElem? (i := 3) rfl)) (fun _ h => h) rfl dX11_pump_51 ?_
      refine lv_istore_n (lv' := [(3, .int lim), (0, .ref h0), (1, .int what), (2, .int v)]) hx hb dX11_pump_54 rfl hl (by decide) rfl (fun ls hl => ?_)
      refine lv_iload_n hx hb dX11_pump_55 rfl (lv_at hl 2 rfl) ?_
      refine lv_if_ne (tgt := 70) hx hb dX11_pump_56 (by decide) (fun _ => ?_) (fun cc0 => absurd cc0 c1)
      refine lv_aload_n hx hb dX11_pump_70 rfl (lv_at hl 1 rfl) ?_
      refine va_get (D := g.1) (ci := 11) (v := .ref pl) (C := RX11) (T := TX11) (N := 15) hx hb hts hc_X11_pump_X11 hown hK hP 0 rfl rfl 0 (by decide) (hts (.fieldLink RX11 12 "OilPush" "plant" "LOilPush$Plant;") (List.mem_of_getElem? (i := 1) rfl)) (fun _ h => h) rfl dX11_pump_71 ?_
      refine lv_iload_n hx hb dX11_pump_74 rfl (lv_at hl 3 rfl) ?_
      refine va_put (D := g.1) (ci := 4) (v := .int v) (ty := .int) (C := RX4) (T := TX4) (N := 5) hx hb hts hc_X11_pump_X4 tyX4 tyX4_ok nmX4 hown hK hP hD hS 1 rfl rfl 1 (by decide) (hts (.fieldLink RX11 81 "OilPush$Plant" "limit" "I") (List.mem_of_getElem? (i := 3) rfl)) (fun _ h => h) rfl (by decide +kernel) rfl rfl (Nat.le_of_ble_eq_true rfl) dX11_pump_75 (fun H locs hP hD hS => ?_)
      replace hP : va_P g.1 vwCl [(h0, .inr (11, [.ref pl, .ref sa, .ref ea, .ref oa, .ref tsa, .ref usa, .ref vea, .ref lka, .ref ra, .ref sha, .ref tra, .int lf, .int std, .int tkd, .int tck])), (pl, .inr (4, [.int gv, .int v, .ref ca, .int cnt, .ref la]))] H := hP
      replace hD : va_D A [(h0, .inr (11, [.ref pl, .ref sa, .ref ea, .ref oa, .ref tsa, .ref usa, .ref vea, .ref lka, .ref ra, .ref sha, .ref tra, .int lf, .int std, .int tkd, .int tck])), (pl, .inr (4, [.int gv, .int v, .ref ca, .int cnt, .ref la]))] := hD
      refine lv_iload_n hx hb dX11_pump_78 rfl (lv_at hl 0 rfl) ?_
      have e90 : (o_x_pump_0 gv what v) = gv := by unfold o_x_pump_0; rw [if_neg c1, if_pos c3, if_neg c4]
      have e91 : (o_x_pump_1 lim what v) = v := by unfold o_x_pump_1; rw [if_neg c1, if_pos c3, if_neg c4]
      have hP : va_P g.1 vwCl [(h0, .inr (11, [.ref pl, .ref sa, .ref ea, .ref oa, .ref tsa, .ref usa, .ref vea, .ref lka, .ref ra, .ref sha, .ref tra, .int lf, .int std, .int tkd, .int tck])), (pl, .inr (4, [.int (o_x_pump_0 gv what v), .int (o_x_pump_1 lim what v), .ref ca, .int cnt, .ref la]))] H := by rw [e90, e91]; exact hP
      have hD : va_D A [(h0, .inr (11, [.ref pl, .ref sa, .ref ea, .ref oa, .ref tsa, .ref usa, .ref vea, .ref lka, .ref ra, .ref sha, .ref tra, .int lf, .int std, .int tkd, .int tck])), (pl, .inr (4, [.int (o_x_pump_0 gv what v), .int (o_x_pump_1 lim what v), .ref ca, .int cnt, .ref la]))] := by rw [e90, e91]; exact hD
      exact retI C hS () (by unfold r_x_pump; rw [if_neg c1, if_pos c3, if_neg c4]) (hP.pick [0, 1] rfl) (hD.sub [0, 1] rfl rfl) (Nat.le_of_ble_eq_true rfl) (Nat.le_of_ble_eq_true rfl) dX11_pump_79
    refine lv_bipush (v := -2) hx hb dX11_pump_30 (by decide) ?_
    have e90 : (o_x_pump_0 gv what v) = gv := by unfold o_x_pump_0; rw [if_neg c1, if_pos c3, if_pos c4]
    have e91 : (o_x_pump_1 lim what v) = lim := by unfold o_x_pump_1; rw [if_neg c1, if_pos c3, if_pos c4]
    have hP : va_P g.1 vwCl [(h0, .inr (11, [.ref pl, .ref sa, .ref ea, .ref oa, .ref tsa, .ref usa, .ref vea, .ref lka, .ref ra, .ref sha, .ref tra, .int lf, .int std, .int tkd, .int tck])), (pl, .inr (4, [.int (o_x_pump_0 gv what v), .int (o_x_pump_1 lim what v), .ref ca, .int cnt, .ref la]))] H := by rw [e90, e91]; exact hP
    have hD : va_D A [(h0, .inr (11, [.ref pl, .ref sa, .ref ea, .ref oa, .ref tsa, .ref usa, .ref vea, .ref lka, .ref ra, .ref sha, .ref tra, .int lf, .int std, .int tkd, .int tck])), (pl, .inr (4, [.int (o_x_pump_0 gv what v), .int (o_x_pump_1 lim what v), .ref ca, .int cnt, .ref la]))] := by rw [e90, e91]; exact hD
    exact retI C hS () (by unfold r_x_pump; rw [if_neg c1, if_pos c3, if_pos c4]) (hP.pick [0, 1] rfl) (hD.sub [0, 1] rfl rfl) (Nat.le_of_ble_eq_true rfl) (Nat.le_of_ble_eq_true rfl) dX11_pump_32
  refine lv_iconst (v := -1) hx hb dX11_pump_9 (by decide) ?_
  have e90 : (o_x_pump_0 gv what v) = gv := by unfold o_x_pump_0; rw [if_neg c1, if_neg c3]
  have e91 : (o_x_pump_1 lim what v) = lim := by unfold o_x_pump_1; rw [if_neg c1, if_neg c3]
  have hP : va_P g.1 vwCl [(h0, .inr (11, [.ref pl, .ref sa, .ref ea, .ref oa, .ref tsa, .ref usa, .ref vea, .ref lka, .ref ra, .ref sha, .ref tra, .int lf, .int std, .int tkd, .int tck])), (pl, .inr (4, [.int (o_x_pump_0 gv what v), .int (o_x_pump_1 lim what v), .ref ca, .int cnt, .ref la]))] H := by rw [e90, e91]; exact hP
  have hD : va_D A [(h0, .inr (11, [.ref pl, .ref sa, .ref ea, .ref oa, .ref tsa, .ref usa, .ref vea, .ref lka, .ref ra, .ref sha, .ref tra, .int lf, .int std, .int tkd, .int tck])), (pl, .inr (4, [.int (o_x_pump_0 gv what v), .int (o_x_pump_1 lim what v), .ref ca, .int cnt, .ref la]))] := by rw [e90, e91]; exact hD
  exact retI C hS () (by unfold r_x_pump; rw [if_neg c1, if_neg c3]) (hP.pick [0, 1] rfl) (hD.sub [0, 1] rfl rfl) (Nat.le_of_ble_eq_true rfl) (Nat.le_of_ble_eq_true rfl) dX11_pump_10
theorem hc_X11_faulted_X11 : ∀ w ∈ wsX110, w ∈ wsX11_faulted := fun w h => List.mem_cons_of_mem _ (List.mem_append_right _ h)
set_option maxRecDepth 100000 in
set_option maxHeartbeats 4000000 in
theorem x_faulted (l : Launch) (g : Gt) (h0 : Nat) (sha : Nat) (tra : Nat) (lf : Int32) (std : Int32) (tkd : Int32) (tck : Int32) (sa : Nat) (ea : Nat) (oa : Nat) (tsa : Nat) (usa : Nat) (vea : Nat) (lka : Nat) (ra : Nat) (pl : Nat) (which : Int32)  : Ctr l g yX11_faulted wsX11_faulted ({ frames := 0, cells := 0, slots := 0, locals := 0 } : Room) [.ref h0, .int which] [(h0, .inr (11, [.ref pl, .ref sa, .ref ea, .ref oa, .ref tsa, .ref usa, .ref vea, .ref lka, .ref ra, .ref sha, .ref tra, .int lf, .int std, .int tkd, .int tck]))] (fun A => QI g A (fun r (_ : Unit) => r = ((-10) - which)) (fun _u : Unit => [(h0, .inr (11, [.ref pl, .ref sa, .ref ea, .ref oa, .ref tsa, .ref usa, .ref vea, .ref lka, .ref ra, .ref sha, .ref tra, .int which, .int std, .int tkd, .int tck]))])) := by
  refine Ctr.of (cc := cX11_faulted) (maxL := 2) (ret := (some .int)) (by decide) rfl (Nat.le_of_ble_eq_true rfl) ?_
  intro p e s m below meth c A ls H C hP hD hA hS hl
  obtain ⟨hx, hb, hr, hts, hown, hlocks, hml, hin, hKN⟩ := id C
  have hK := hKN.1
  have hN := hKN.2
  have F : CallFix p m c cX11_faulted 2 s _ wsX11_faulted yX11_faulted.cls := ⟨hx, hb, hml, hown, hts⟩
  have hl : lv_has ls 2 [(0, .ref h0), (1, .int which)] := hl
  refine lv_aload_n hx hb dX11_faulted_0 rfl (lv_at hl 0 rfl) ?_
  refine lv_iload_n hx hb dX11_faulted_1 rfl (lv_at hl 1 rfl) ?_
  refine va_put (D := g.1) (ci := 11) (v := .int which) (ty := .int) (C := RX11) (T := TX11) (N := 15) hx hb hts hc_X11_faulted_X11 tyX11 tyX11_ok nmX11 hown hK hP hD hS 0 rfl rfl 11 (by decide) (hts (.fieldLink RX11 110 "OilPush" "latestFault" "I") (List.mem_of_getElem? (i := 1) rfl)) (fun _ h => h) rfl (by decide +kernel) rfl rfl (Nat.le_of_ble_eq_true rfl) dX11_faulted_2 (fun H locs hP hD hS => ?_)
  replace hP : va_P g.1 vwCl [(h0, .inr (11, [.ref pl, .ref sa, .ref ea, .ref oa, .ref tsa, .ref usa, .ref vea, .ref lka, .ref ra, .ref sha, .ref tra, .int which, .int std, .int tkd, .int tck]))] H := hP
  replace hD : va_D A [(h0, .inr (11, [.ref pl, .ref sa, .ref ea, .ref oa, .ref tsa, .ref usa, .ref vea, .ref lka, .ref ra, .ref sha, .ref tra, .int which, .int std, .int tkd, .int tck]))] := hD
  refine lv_bipush (v := -10) hx hb dX11_faulted_5 (by decide) ?_
  refine lv_iload_n hx hb dX11_faulted_7 rfl (lv_at hl 1 rfl) ?_
  refine lv_isub hx hb dX11_faulted_8 ?_
  exact retI C hS () rfl (hP.pick [0] rfl) (hD.sub [0] rfl rfl) (Nat.le_of_ble_eq_true rfl) (Nat.le_of_ble_eq_true rfl) dX11_faulted_9
set_option maxRecDepth 100000 in
set_option maxHeartbeats 4000000 in
theorem x_swap (l : Launch) (g : Gt) (row_ : Nat) (frow : Nat → Int32) (ix : Int32) (v : Int32)  : Ctr l g yX11_swap wsX11_swap ({ frames := 1, cells := 0, slots := 0, locals := 22 } : Room) [.ref row_, .int ix, .int v] [(row_, .inl (g.2 0, 6, .inl frow))] (fun A => QI g A (fun r (_ : Unit) => r = (r_c_get 6 frow ix)) (fun _u : Unit => [(row_, .inl (g.2 0, 6, .inl (r_c_set 6 frow ix v)))])) := by
  refine Ctr.of (cc := cX11_swap) (maxL := 4) (ret := (some .int)) (by decide) rfl (Nat.le_of_ble_eq_true rfl) ?_
  intro p e s m below meth c A ls H C hP hD hA hS hl
  obtain ⟨hx, hb, hr, hts, hown, hlocks, hml, hin, hKN⟩ := id C
  have hK := hKN.1
  have hN := hKN.2
  have F : CallFix p m c cX11_swap 4 s _ wsX11_swap yX11_swap.cls := ⟨hx, hb, hml, hown, hts⟩
  have hl : lv_has ls 4 [(0, .ref row_), (1, .int ix), (2, .int v)] := hl
  refine lv_aload_n hx hb dX11_swap_0 rfl (lv_at hl 0 rfl) ?_
  refine lv_iload_n hx hb dX11_swap_1 rfl (lv_at hl 1 rfl) ?_
  refine kI (rnS (As := [.ref row_, .int ix]) (rest := []) C (c_get l g row_ 6 frow ix (by decide)) 2 gX11_swap_X11_get rfl (by decide +kernel) ⟨(Nat.le_of_ble_eq_true rfl), (Nat.le_of_ble_eq_true rfl)⟩ rfl hl.1 rfl (Nat.le_of_ble_eq_true rfl) dX11_swap_2 ⟨(Nat.le_of_ble_eq_true rfl), (Nat.le_of_ble_eq_true rfl)⟩) (spM0 [true] hP hD rfl) hA hS (fun r1 u2 H locs hw hP hD hS => ?_)
  have hre := hw
  replace hP : va_P g.1 vwCl [(row_, .inl (g.2 0, 6, .inl frow))] H := hP
  replace hD : va_D A [(row_, .inl (g.2 0, 6, .inl frow))] := hD
  refine nx_i (v := (r_c_get 6 frow ix)) hre ?_
  refine lv_istore_n (lv' := [(3, .int (r_c_get 6 frow ix)), (0, .ref row_), (1, .int ix), (2, .int v)]) hx hb dX11_swap_5 rfl hl (by decide) rfl (fun ls hl => ?_)
  refine lv_aload_n hx hb dX11_swap_6 rfl (lv_at hl 1 rfl) ?_
  refine lv_iload_n hx hb dX11_swap_7 rfl (lv_at hl 2 rfl) ?_
  refine lv_iload_n hx hb dX11_swap_8 rfl (lv_at hl 3 rfl) ?_
  refine kV (rnS (As := [.ref row_, .int ix, .int v]) (rest := []) C (c_set l g row_ 6 frow ix v (by decide)) 3 gX11_swap_X11_set rfl (by decide +kernel) ⟨(Nat.le_of_ble_eq_true rfl), (Nat.le_of_ble_eq_true rfl)⟩ rfl hl.1 rfl (Nat.le_of_ble_eq_true rfl) dX11_swap_9 ⟨(Nat.le_of_ble_eq_true rfl), (Nat.le_of_ble_eq_true rfl)⟩) (spM0 [true] hP hD rfl) hA hS (fun u4 H locs hw hP hD hS => ?_)
  replace hP : va_P g.1 vwCl [(row_, .inl (g.2 0, 6, .inl (r_c_set 6 frow ix v)))] H := hP
  replace hD : va_D A [(row_, .inl (g.2 0, 6, .inl (r_c_set 6 frow ix v)))] := hD
  refine lv_iload_n hx hb dX11_swap_12 rfl (lv_at hl 0 rfl) ?_
  exact retI C hS () rfl (hP.pick [0] rfl) (hD.sub [0] rfl rfl) (Nat.le_of_ble_eq_true rfl) (Nat.le_of_ble_eq_true rfl) dX11_swap_13
theorem hc_X11_gauge_X1 : ∀ w ∈ wsX10, w ∈ wsX11_gauge := fun w h => List.mem_cons_of_mem _ (List.mem_append_right _ h)
theorem hc_X11_gauge_X11 : ∀ w ∈ wsX110, w ∈ wsX11_gauge := fun w h => List.mem_cons_of_mem _ (List.mem_append_left _ (List.mem_append_right _ h))
theorem hc_X11_waits_X11 : ∀ w ∈ wsX110, w ∈ wsX11_waits := fun w h => List.mem_cons_of_mem _ (List.mem_append_left _ (List.mem_append_right _ h))
theorem hc_X11_waits_X7 : ∀ w ∈ wsX70, w ∈ wsX11_waits := fun w h => List.mem_cons_of_mem _ (List.mem_append_right _ h)
set_option maxRecDepth 100000 in
set_option maxHeartbeats 4000000 in
theorem x_waits (l : Launch) (g : Gt) (h0 : Nat) (sha : Nat) (tra : Nat) (lf : Int32) (std : Int32) (tkd : Int32) (tck : Int32) (sa : Nat) (ea : Nat) (oa : Nat) (tsa : Nat) (usa : Nat) (vea : Nat) (lka : Nat) (ra : Nat) (pl : Nat) (so : Nat) (sv : Nat) (sb : Nat) (ss : Nat) (wt : Int32)  : Ctr l g yX11_waits wsX11_waits ({ frames := 0, cells := 0, slots := 0, locals := 0 } : Room) [.ref h0] [(h0, .inr (11, [.ref pl, .ref sa, .ref ea, .ref oa, .ref tsa, .ref usa, .ref vea, .ref lka, .ref ra, .ref sha, .ref tra, .int lf, .int std, .int tkd, .int tck])), (sa, .inr (7, [.ref so, .ref sv, .ref sb, .ref ss, .int wt]))] (fun A => QI g A (fun r (_ : Unit) => r = wt) (fun _u : Unit => [(h0, .inr (11, [.ref pl, .ref sa, .ref ea, .ref oa, .ref tsa, .ref usa, .ref vea, .ref lka, .ref ra, .ref sha, .ref tra, .int lf, .int std, .int tkd, .int tck])), (sa, .inr (7, [.ref so, .ref sv, .ref sb, .ref ss, .int wt]))])) := by
  refine Ctr.of (cc := cX11_waits) (maxL := 1) (ret := (some .int)) (by decide) rfl (Nat.le_of_ble_eq_true rfl) ?_
  intro p e s m below meth c A ls H C hP hD hA hS hl
  obtain ⟨hx, hb, hr, hts, hown, hlocks, hml, hin, hKN⟩ := id C
  have hK := hKN.1
  have hN := hKN.2
  have F : CallFix p m c cX11_waits 1 s _ wsX11_waits yX11_waits.cls := ⟨hx, hb, hml, hown, hts⟩
  have hl : lv_has ls 1 [(0, .ref h0)] := hl
  refine lv_aload_n hx hb dX11_waits_0 rfl (lv_at hl 0 rfl) ?_
  refine va_get (D := g.1) (ci := 11) (v := .ref sa) (C := RX11) (T := TX11) (N := 15) hx hb hts hc_X11_waits_X11 hown hK hP 0 rfl rfl 1 (by decide) (hts (.fieldLink RX11 21 "OilPush" "now" "LOilPush$State;") (List.mem_of_getElem? (i := 1) rfl)) (fun _ h => h) rfl dX11_waits_1 ?_
  refine va_get (D := g.1) (ci := 7) (v := .int wt) (C := RX7) (T := TX7) (N := 5) hx hb hts hc_X11_waits_X7 hown hK hP 1 rfl rfl 4 (by decide) (hts (.fieldLink RX11 245 "OilPush$State" "waits" "I") (List.mem_of_getElem? (i := 2) rfl)) (fun _ h => h) rfl dX11_waits_4 ?_
  exact retI C hS () rfl (hP.pick [0, 1] rfl) (hD.sub [0, 1] rfl rfl) (Nat.le_of_ble_eq_true rfl) (Nat.le_of_ble_eq_true rfl) dX11_waits_7
theorem hc_X11_forget_X11 : ∀ w ∈ wsX110, w ∈ wsX11_forget := fun w h => List.mem_cons_of_mem _ (List.mem_append_left _ (List.mem_append_right _ h))
theorem hc_X11_forget_X5 : ∀ w ∈ wsX50, w ∈ wsX11_forget := fun w h => List.mem_cons_of_mem _ (List.mem_append_right _ h)
set_option maxRecDepth 100000 in
set_option maxHeartbeats 4000000 in
theorem x_forget (l : Launch) (g : Gt) (h0 : Nat) (sha : Nat) (tra : Nat) (lf : Int32) (std : Int32) (tkd : Int32) (tck : Int32) (sa : Nat) (ea : Nat) (oa : Nat) (tsa : Nat) (usa : Nat) (vea : Nat) (lka : Nat) (ra : Nat) (pl : Nat) (rt : Nat) (ro : Nat) (rx : Nat) (rc : Int32)  : Ctr l g yX11_forget wsX11_forget ({ frames := 0, cells := 0, slots := 0, locals := 0 } : Room) [.ref h0] [(h0, .inr (11, [.ref pl, .ref sa, .ref ea, .ref oa, .ref tsa, .ref usa, .ref vea, .ref lka, .ref ra, .ref sha, .ref tra, .int lf, .int std, .int tkd, .int tck])), (ra, .inr (5, [.ref rt, .ref ro, .ref rx, .int rc]))] (fun A => QI g A (fun r (_ : Unit) => r = rc) (fun _u : Unit => [(h0, .inr (11, [.ref pl, .ref sa, .ref ea, .ref oa, .ref tsa, .ref usa, .ref vea, .ref lka, .ref ra, .ref sha, .ref tra, .int lf, .int std, .int tkd, .int tck])), (ra, .inr (5, [.ref rt, .ref ro, .ref rx, .int 0]))])) := by
  refine Ctr.of (cc := cX11_forget) (maxL := 2) (ret := (some .int)) (by decide) rfl (Nat.le_of_ble_eq_true rfl) ?_
  intro p e s m below meth c A ls H C hP hD hA hS hl
  obtain ⟨hx, hb, hr, hts, hown, hlocks, hml, hin, hKN⟩ := id C
  have hK := hKN.1
  have hN := hKN.2
  have F : CallFix p m c cX11_forget 2 s _ wsX11_forget yX11_forget.cls := ⟨hx, hb, hml, hown, hts⟩
  have hl : lv_has ls 2 [(0, .ref h0)] := hl
  refine lv_aload_n hx hb dX11_forget_0 rfl (lv_at hl 0 rfl) ?_
  refine va_get (D := g.1) (ci := 11) (v := .ref ra) (C := RX11) (T := TX11) (N := 15) hx hb hts hc_X11_forget_X11 hown hK hP 0 rfl rfl 8 (by decide) (hts (.fieldLink RX11 55 "OilPush" "readings" "LOilPush$Readings;") (List.mem_of_getElem? (i := 1) rfl)) (fun _ h => h) rfl dX11_forget_1 ?_
  refine va_get (D := g.1) (ci := 5) (v := .int rc) (C := RX5) (T := TX5) (N := 4) hx hb hts hc_X11_forget_X5 hown hK hP 1 rfl rfl 3 (by decide) (hts (.fieldLink RX11 256 "OilPush$Readings" "count" "I") (List.mem_of_getElem? (i := 2) rfl)) (fun _ h => h) rfl dX11_forget_4 ?_
  refine lv_istore_n (lv' := [(1, .int rc), (0, .ref h0)]) hx hb dX11_forget_7 rfl hl (by decide) rfl (fun ls hl => ?_)
  refine lv_aload_n hx hb dX11_forget_8 rfl (lv_at hl 1 rfl) ?_
  refine va_get (D := g.1) (ci := 11) (v := .ref ra) (C := RX11) (T := TX11) (N := 15) hx hb hts hc_X11_forget_X11 hown hK hP 0 rfl rfl 8 (by decide) (hts (.fieldLink RX11 55 "OilPush" "readings" "LOilPush$Readings;") (List.mem_of_getElem? (i := 1) rfl)) (fun _ h => h) rfl dX11_forget_9 ?_
  refine lv_iconst (v := 0) hx hb dX11_forget_12 (by decide) ?_
  refine va_put (D := g.1) (ci := 5) (v := .int 0) (ty := .int) (C := RX5) (T := TX5) (N := 4) hx hb hts hc_X11_forget_X5 tyX5 tyX5_ok nmX5 hown hK hP hD hS 1 rfl rfl 3 (by decide) (hts (.fieldLink RX11 256 "OilPush$Readings" "count" "I") (List.mem_of_getElem? (i := 2) rfl)) (fun _ h => h) rfl (by decide +kernel) rfl rfl (Nat.le_of_ble_eq_true rfl) dX11_forget_13 (fun H locs hP hD hS => ?_)
  replace hP : va_P g.1 vwCl [(h0, .inr (11, [.ref pl, .ref sa, .ref ea, .ref oa, .ref tsa, .ref usa, .ref vea, .ref lka, .ref ra, .ref sha, .ref tra, .int lf, .int std, .int tkd, .int tck])), (ra, .inr (5, [.ref rt, .ref ro, .ref rx, .int 0]))] H := hP
  replace hD : va_D A [(h0, .inr (11, [.ref pl, .ref sa, .ref ea, .ref oa, .ref tsa, .ref usa, .ref vea, .ref lka, .ref ra, .ref sha, .ref tra, .int lf, .int std, .int tkd, .int tck])), (ra, .inr (5, [.ref rt, .ref ro, .ref rx, .int 0]))] := hD
  refine lv_iload_n hx hb dX11_forget_16 rfl (lv_at hl 0 rfl) ?_
  exact retI C hS () rfl (hP.pick [0, 1] rfl) (hD.sub [0, 1] rfl rfl) (Nat.le_of_ble_eq_true rfl) (Nat.le_of_ble_eq_true rfl) dX11_forget_17
theorem hc_X11_trace_X11 : ∀ w ∈ wsX110, w ∈ wsX11_trace := fun w h => List.mem_cons_of_mem _ (List.mem_append_left _ (List.mem_append_right _ h))
theorem hc_X11_trace_X9 : ∀ w ∈ wsX90, w ∈ wsX11_trace := fun w h => List.mem_cons_of_mem _ (List.mem_append_right _ h)
set_option maxRecDepth 100000 in
set_option maxHeartbeats 4000000 in
theorem x_trace (l : Launch) (g : Gt) (h0 : Nat) (sha : Nat) (tra : Nat) (lf : Int32) (std : Int32) (tkd : Int32) (tck : Int32) (sa : Nat) (ea : Nat) (oa : Nat) (tsa : Nat) (usa : Nat) (vea : Nat) (lka : Nat) (ra : Nat) (pl : Nat) (tv : Int32)  : Ctr l g yX11_trace wsX11_trace ({ frames := 0, cells := 0, slots := 0, locals := 0 } : Room) [.ref h0] [(h0, .inr (11, [.ref pl, .ref sa, .ref ea, .ref oa, .ref tsa, .ref usa, .ref vea, .ref lka, .ref ra, .ref sha, .ref tra, .int lf, .int std, .int tkd, .int tck])), (tra, .inr (9, [.int tv]))] (fun A => QI g A (fun r (_ : Unit) => r = tv) (fun _u : Unit => [(h0, .inr (11, [.ref pl, .ref sa, .ref ea, .ref oa, .ref tsa, .ref usa, .ref vea, .ref lka, .ref ra, .ref sha, .ref tra, .int lf, .int std, .int tkd, .int tck])), (tra, .inr (9, [.int tv]))])) := by
  refine Ctr.of (cc := cX11_trace) (maxL := 1) (ret := (some .int)) (by decide) rfl (Nat.le_of_ble_eq_true rfl) ?_
  intro p e s m below meth c A ls H C hP hD hA hS hl
  obtain ⟨hx, hb, hr, hts, hown, hlocks, hml, hin, hKN⟩ := id C
  have hK := hKN.1
  have hN := hKN.2
  have F : CallFix p m c cX11_trace 1 s _ wsX11_trace yX11_trace.cls := ⟨hx, hb, hml, hown, hts⟩
  have hl : lv_has ls 1 [(0, .ref h0)] := hl
  refine lv_aload_n hx hb dX11_trace_0 rfl (lv_at hl 0 rfl) ?_
  refine va_get (D := g.1) (ci := 11) (v := .ref tra) (C := RX11) (T := TX11) (N := 15) hx hb hts hc_X11_trace_X11 hown hK hP 0 rfl rfl 10 (by decide) (hts (.fieldLink RX11 68 "OilPush" "trace" "LOilPush$Trace;") (List.mem_of_getElem? (i := 1) rfl)) (fun _ h => h) rfl dX11_trace_1 ?_
  refine va_get (D := g.1) (ci := 9) (v := .int tv) (C := RX9) (T := TX9) (N := 1) hx hb hts hc_X11_trace_X9 hown hK hP 1 rfl rfl 0 (by decide) (hts (.fieldLink RX11 304 "OilPush$Trace" "value" "I") (List.mem_of_getElem? (i := 2) rfl)) (fun _ h => h) rfl dX11_trace_4 ?_
  exact retI C hS () rfl (hP.pick [0, 1] rfl) (hD.sub [0, 1] rfl rfl) (Nat.le_of_ble_eq_true rfl) (Nat.le_of_ble_eq_true rfl) dX11_trace_7
theorem hc_X11_fault_X11 : ∀ w ∈ wsX110, w ∈ wsX11_fault := fun w h => List.mem_cons_of_mem _ (List.mem_append_right _ h)
set_option maxRecDepth 100000 in
set_option maxHeartbeats 4000000 in
theorem x_fault (l : Launch) (g : Gt) (h0 : Nat) (sha : Nat) (tra : Nat) (lf : Int32) (std : Int32) (tkd : Int32) (tck : Int32) (sa : Nat) (ea : Nat) (oa : Nat) (tsa : Nat) (usa : Nat) (vea : Nat) (lka : Nat) (ra : Nat) (pl : Nat)  : Ctr l g yX11_fault wsX11_fault ({ frames := 0, cells := 0, slots := 0, locals := 0 } : Room) [.ref h0] [(h0, .inr (11, [.ref pl, .ref sa, .ref ea, .ref oa, .ref tsa, .ref usa, .ref vea, .ref lka, .ref ra, .ref sha, .ref tra, .int lf, .int std, .int tkd, .int tck]))] (fun A => QI g A (fun r (_ : Unit) => r = lf) (fun _u : Unit => [(h0, .inr (11, [.ref pl, .ref sa, .ref ea, .ref oa, .ref tsa, .ref usa, .ref vea, .ref lka, .ref ra, .ref sha, .ref tra, .int lf, .int std, .int tkd, .int tck]))])) := by
  refine Ctr.of (cc := cX11_fault) (maxL := 1) (ret := (some .int)) (by decide) rfl (Nat.le_of_ble_eq_true rfl) ?_
  intro p e s m below meth c A ls H C hP hD hA hS hl
  obtain ⟨hx, hb, hr, hts, hown, hlocks, hml, hin, hKN⟩ := id C
  have hK := hKN.1
  have hN := hKN.2
  have F : CallFix p m c cX11_fault 1 s _ wsX11_fault yX11_fault.cls := ⟨hx, hb, hml, hown, hts⟩
  have hl : lv_has ls 1 [(0, .ref h0)] := hl
  refine lv_aload_n hx hb dX11_fault_0 rfl (lv_at hl 0 rfl) ?_
  refine va_get (D := g.1) (ci := 11) (v := .int lf) (C := RX11) (T := TX11) (N := 15) hx hb hts hc_X11_fault_X11 hown hK hP 0 rfl rfl 11 (by decide) (hts (.fieldLink RX11 110 "OilPush" "latestFault" "I") (List.mem_of_getElem? (i := 1) rfl)) (fun _ h => h) rfl dX11_fault_1 ?_
  exact retI C hS () rfl (hP.pick [0] rfl) (hD.sub [0] rfl rfl) (Nat.le_of_ble_eq_true rfl) (Nat.le_of_ble_eq_true rfl) dX11_fault_4
theorem hc_X11_store_X11 : ∀ w ∈ wsX110, w ∈ wsX11_store := fun w h => List.mem_cons_of_mem _ (List.mem_append_left _ (List.mem_append_left _ (List.mem_append_right _ h)))
theorem hc_X11_store_X7 : ∀ w ∈ wsX70, w ∈ wsX11_store := fun w h => List.mem_cons_of_mem _ (List.mem_append_left _ (List.mem_append_right _ h))
theorem hc_X11_store_X8 : ∀ w ∈ wsX80, w ∈ wsX11_store := fun w h => List.mem_cons_of_mem _ (List.mem_append_right _ h)
theorem hc_X11_valve_X11 : ∀ w ∈ wsX110, w ∈ wsX11_valve := fun w h => List.mem_cons_of_mem _ (List.mem_append_left _ (List.mem_append_left _ (List.mem_append_right _ h)))
theorem hc_X11_valve_X7 : ∀ w ∈ wsX70, w ∈ wsX11_valve := fun w h => List.mem_cons_of_mem _ (List.mem_append_left _ (List.mem_append_right _ h))
theorem hc_X11_burst_X11 : ∀ w ∈ wsX110, w ∈ wsX11_burst := fun w h => List.mem_cons_of_mem _ (List.mem_append_left _ (List.mem_append_left _ (List.mem_append_right _ h)))
theorem hc_X11_burst_X7 : ∀ w ∈ wsX70, w ∈ wsX11_burst := fun w h => List.mem_cons_of_mem _ (List.mem_append_left _ (List.mem_append_right _ h))
set_option maxRecDepth 100000 in
set_option maxHeartbeats 4000000 in
theorem x_burst (l : Launch) (g : Gt) (h0 : Nat) (sha : Nat) (tra : Nat) (lf : Int32) (std : Int32) (tkd : Int32) (tck : Int32) (sa : Nat) (ea : Nat) (oa : Nat) (tsa : Nat) (usa : Nat) (vea : Nat) (lka : Nat) (ra : Nat) (pl : Nat) (gv : Int32) (lim : Int32) (ca : Nat) (cnt : Int32) (la : Nat) (fc : Nat → Option Nat) (so : Nat) (sv : Nat) (sb : Nat) (ss : Nat) (wt : Int32) (fb : Nat → Int32) (cy : Int32) (v : Int32) (hfc : FCs cnt fc) : Ctr l g yX11_burst wsX11_burst ({ frames := 2, cells := 0, slots := 0, locals := 45 } : Room) [.ref h0, .int cy, .int v] [(h0, .inr (11, [.ref pl, .ref sa, .ref ea, .ref oa, .ref tsa, .ref usa, .ref vea, .ref lka, .ref ra, .ref sha, .ref tra, .int lf, .int std, .int tkd, .int tck])), (pl, .inr (4, [.int gv, .int lim, .ref ca, .int cnt, .ref la])), (ca, .inl (g.2 3, 6, .inr (.inr (.inr (.inr fc))))), (sa, .inr (7, [.ref so, .ref sv, .ref sb, .ref ss, .int wt])), (sb, .inl (g.2 0, 6, .inl fb))] (fun A => QI g A (fun r (u : (Nat → Int32)) => (r = sb_r cnt fb cy v) ∧ (u = sb_f cnt fb cy v)) (fun (u : (Nat → Int32)) => [(h0, .inr (11, [.ref pl, .ref sa, .ref ea, .ref oa, .ref tsa, .ref usa, .ref vea, .ref lka, .ref ra, .ref sha, .ref tra, .int lf, .int std, .int tkd, .int tck])), (pl, .inr (4, [.int gv, .int lim, .ref ca, .int cnt, .ref la])), (ca, .inl (g.2 3, 6, .inr (.inr (.inr (.inr fc))))), (sa, .inr (7, [.ref so, .ref sv, .ref sb, .ref ss, .int wt])), (sb, .inl (g.2 0, 6, .inl u))])) := by
  refine Ctr.of (cc := cX11_burst) (maxL := 4) (ret := (some .int)) (by decide) rfl (Nat.le_of_ble_eq_true rfl) ?_
  intro p e s m below meth c A ls H C hP hD hA hS hl
  obtain ⟨hx, hb, hr, hts, hown, hlocks, hml, hin, hKN⟩ := id C
  have hK := hKN.1
  have hN := hKN.2
  have F : CallFix p m c cX11_burst 4 s _ wsX11_burst yX11_burst.cls := ⟨hx, hb, hml, hown, hts⟩
  have hl : lv_has ls 4 [(0, .ref h0), (1, .int cy), (2, .int v)] := hl
  refine lv_aload_n hx hb dX11_burst_0 rfl (lv_at hl 0 rfl) ?_
  refine va_get (D := g.1) (ci := 11) (v := .ref pl) (C := RX11) (T := TX11) (N := 15) hx hb hts hc_X11_burst_X11 hown hK hP 0 rfl rfl 0 (by decide) (hts (.fieldLink RX11 12 "OilPush" "plant" "LOilPush$Plant;") (List.mem_of_getElem? (i := 1) rfl)) (fun _ h => h) rfl dX11_burst_1 ?_
  refine lv_iload_n hx hb dX11_burst_4 rfl (lv_at hl 1 rfl) ?_
  refine kQ (rnV (As := [.int cy]) (rest := []) (Cn := RX4) C (p_at l g pl gv lim ca cnt la fc cy) 1 gX11_burst_X4_at rfl (by decide +kernel) ⟨(Nat.le_of_ble_eq_true rfl), (Nat.le_of_ble_eq_true rfl)⟩ hP (k := 1) (ci := 4) rfl rfl rfl rfl hl.1 rfl (Nat.le_of_ble_eq_true rfl) dX11_burst_5 ⟨(Nat.le_of_ble_eq_true rfl), (Nat.le_of_ble_eq_true rfl)⟩) (spM0 [false, true, true, false, false] hP hD rfl) hA hS (fun r1 u2 H locs hw hP hD hS => ?_)
  have f3 := hw
  replace hP : va_P g.1 vwCl [(h0, .inr (11, [.ref pl, .ref sa, .ref ea, .ref oa, .ref tsa, .ref usa, .ref vea, .ref lka, .ref ra, .ref sha, .ref tra, .int lf, .int std, .int tkd, .int tck])), (pl, .inr (4, [.int gv, .int lim, .ref ca, .int cnt, .ref la])), (ca, .inl (g.2 3, 6, .inr (.inr (.inr (.inr fc))))), (sa, .inr (7, [.ref so, .ref sv, .ref sb, .ref ss, .int wt])), (sb, .inl (g.2 0, 6, .inl fb))] H := hP
  replace hD : va_D A [(h0, .inr (11, [.ref pl, .ref sa, .ref ea, .ref oa, .ref tsa, .ref usa, .ref vea, .ref lka, .ref ra, .ref sha, .ref tra, .int lf, .int std, .int tkd, .int tck])), (pl, .inr (4, [.int gv, .int lim, .ref ca, .int cnt, .ref la])), (ca, .inl (g.2 3, 6, .inr (.inr (.inr (.inr fc))))), (sa, .inr (7, [.ref so, .ref sv, .ref sb, .ref ss, .int wt])), (sb, .inl (g.2 0, 6, .inl fb))] := hD
  rcases r1 with _ | yb
  · refine nx_v (v := .null) rfl ?_
    refine lv_ifnonnullN hx hb dX11_burst_8 ?_
    refine lv_iconst (v := -1) hx hb dX11_burst_11 (by decide) ?_
    exact retI C hS fb ⟨(by simp only [sb_r, if_pos hfc, if_pos f3, if_pos (hfc _ f3)]), (by simp only [sb_f, if_pos hfc, if_pos f3, if_pos (hfc _ f3)])⟩ hP hD (Nat.le_of_ble_eq_true rfl) (Nat.le_of_ble_eq_true rfl) dX11_burst_12
  refine nx_v (v := .ref yb) rfl ?_
  refine lv_ifnonnull (tgt := 13) hx hb dX11_burst_8 (by decide) ?_
  refine lv_iload_n hx hb dX11_burst_13 rfl (lv_at hl 2 rfl) ?_
  refine lv_if_eq (tgt := 21) hx hb dX11_burst_14 (by decide) (fun c4 => ?_) (fun c4 => ?_)
  · refine lv_iconst (v := 0) hx hb dX11_burst_21 (by decide) ?_
    refine lv_istore_n (lv' := [(3, .int 0), (0, .ref h0), (1, .int cy), (2, .int v)]) hx hb dX11_burst_22 rfl hl (by decide) rfl (fun ls hl => ?_)
    refine lv_aload_n hx hb dX11_burst_23 rfl (lv_at hl 1 rfl) ?_
    refine va_get (D := g.1) (ci := 11) (v := .ref sa) (C := RX11) (T := TX11) (N := 15) hx hb hts hc_X11_burst_X11 hown hK hP 0 rfl rfl 1 (by decide) (hts (.fieldLink RX11 21 "OilPush" "now" "LOilPush$State;") (List.mem_of_getElem? (i := 2) rfl)) (fun _ h => h) rfl dX11_burst_24 ?_
    refine va_get (D := g.1) (ci := 7) (v := .ref sb) (C := RX7) (T := TX7) (N := 5) hx hb hts hc_X11_burst_X7 hown hK hP 3 rfl rfl 2 (by decide) (hts (.fieldLink RX11 152 "OilPush$State" "burst" "[I") (List.mem_of_getElem? (i := 3) rfl)) (fun _ h => h) rfl dX11_burst_27 ?_
    refine lv_iload_n hx hb dX11_burst_30 rfl (lv_at hl 2 rfl) ?_
    refine lv_iload_n hx hb dX11_burst_31 rfl (lv_at hl 0 rfl) ?_
    refine kI (rnS (As := [.ref sb, .int cy, .int 0]) (rest := []) C (x_swap l g sb fb cy 0) 3 gX11_burst_X11_swap rfl (by decide +kernel) ⟨(Nat.le_of_ble_eq_true rfl), (Nat.le_of_ble_eq_true rfl)⟩ rfl hl.1 rfl (Nat.le_of_ble_eq_true rfl) dX11_burst_32 ⟨(Nat.le_of_ble_eq_true rfl), (Nat.le_of_ble_eq_true rfl)⟩) (spM0 [false, false, false, false, true] hP hD rfl) hA hS (fun r5 u6 H locs hw hP hD hS => ?_)
    have hre := hw
    replace hP : va_P g.1 vwCl [(h0, .inr (11, [.ref pl, .ref sa, .ref ea, .ref oa, .ref tsa, .ref usa, .ref vea, .ref lka, .ref ra, .ref sha, .ref tra, .int lf, .int std, .int tkd, .int tck])), (pl, .inr (4, [.int gv, .int lim, .ref ca, .int cnt, .ref la])), (ca, .inl (g.2 3, 6, .inr (.inr (.inr (.inr fc))))), (sa, .inr (7, [.ref so, .ref sv, .ref sb, .ref ss, .int wt])), (sb, .inl (g.2 0, 6, .inl (r_c_set 6 fb cy 0)))] H := hP
    replace hD : va_D A [(h0, .inr (11, [.ref pl, .ref sa, .ref ea, .ref oa, .ref tsa, .ref usa, .ref vea, .ref lka, .ref ra, .ref sha, .ref tra, .int lf, .int std, .int tkd, .int tck])), (pl, .inr (4, [.int gv, .int lim, .ref ca, .int cnt, .ref la])), (ca, .inl (g.2 3, 6, .inr (.inr (.inr (.inr fc))))), (sa, .inr (7, [.ref so, .ref sv, .ref sb, .ref ss, .int wt])), (sb, .inl (g.2 0, 6, .inl (r_c_set 6 fb cy 0)))] := hD
    refine nx_i (v := (r_c_get 6 fb cy)) hre ?_
    refine lv_iload_n hx hb dX11_burst_35 rfl (lv_at hl 0 rfl) ?_
    refine lv_icmp_ne (tgt := 43) hx hb dX11_burst_36 (by decide) (fun c7 => ?_) (fun c7 => ?_)
    · refine lv_iconst (v := 1) hx hb dX11_burst_43 (by decide) ?_
      exact retI C hS (r_c_set 6 fb cy 0) ⟨(by simp only [sb_r, if_pos hfc, if_pos f3, if_neg (pa_some f3), if_pos c4, if_neg c7]), (by simp only [sb_f, if_pos hfc, if_pos f3, if_neg (pa_some f3), if_pos c4, if_neg c7])⟩ hP hD (Nat.le_of_ble_eq_true rfl) (Nat.le_of_ble_eq_true rfl) dX11_burst_44
    refine lv_iconst (v := 0) hx hb dX11_burst_39 (by decide) ?_
    refine lv_goto (tgt := 44) hx hb dX11_burst_40 (by decide) ?_
    exact retI C hS (r_c_set 6 fb cy 0) ⟨(by simp only [sb_r, if_pos hfc, if_pos f3, if_neg (pa_some f3), if_pos c4, if_pos c7]), (by simp only [sb_f, if_pos hfc, if_pos f3, if_neg (pa_some f3), if_pos c4, if_pos c7])⟩ hP hD (Nat.le_of_ble_eq_true rfl) (Nat.le_of_ble_eq_true rfl) dX11_burst_44
  refine lv_iconst (v := 1) hx hb dX11_burst_17 (by decide) ?_
  refine lv_goto (tgt := 22) hx hb dX11_burst_18 (by decide) ?_
  refine lv_istore_n (lv' := [(3, .int 1), (0, .ref h0), (1, .int cy), (2, .int v)]) hx hb dX11_burst_22 rfl hl (by decide) rfl (fun ls hl => ?_)
  refine lv_aload_n hx hb dX11_burst_23 rfl (lv_at hl 1 rfl) ?_
  refine va_get (D := g.1) (ci := 11) (v := .ref sa) (C := RX11) (T := TX11) (N := 15) hx hb hts hc_X11_burst_X11 hown hK hP 0 rfl rfl 1 (by decide) (hts (.fieldLink RX11 21 "OilPush" "now" "LOilPush$State;") (List.mem_of_getElem? (i := 2) rfl)) (fun _ h => h) rfl dX11_burst_24 ?_
  refine va_get (D := g.1) (ci := 7) (v := .ref sb) (C := RX7) (T := TX7) (N := 5) hx hb hts hc_X11_burst_X7 hown hK hP 3 rfl rfl 2 (by decide) (hts (.fieldLink RX11 152 "OilPush$State" "burst" "[I") (List.mem_of_getElem? (i := 3) rfl)) (fun _ h => h) rfl dX11_burst_27 ?_
  refine lv_iload_n hx hb dX11_burst_30 rfl (lv_at hl 2 rfl) ?_
  refine lv_iload_n hx hb dX11_burst_31 rfl (lv_at hl 0 rfl) ?_
  refine kI (rnS (As := [.ref sb, .int cy, .int 1]) (rest := []) C (x_swap l g sb fb cy 1) 3 gX11_burst_X11_swap rfl (by decide +kernel) ⟨(Nat.le_of_ble_eq_true rfl), (Nat.le_of_ble_eq_true rfl)⟩ rfl hl.1 rfl (Nat.le_of_ble_eq_true rfl) dX11_burst_32 ⟨(Nat.le_of_ble_eq_true rfl), (Nat.le_of_ble_eq_true rfl)⟩) (spM0 [false, false, false, false, true] hP hD rfl) hA hS (fun r8 u9 H locs hw hP hD hS => ?_)
  have hre := hw
  replace hP : va_P g.1 vwCl [(h0, .inr (11, [.ref pl, .ref sa, .ref ea, .ref oa, .ref tsa, .ref usa, .ref vea, .ref lka, .ref ra, .ref sha, .ref tra, .int lf, .int std, .int tkd, .int tck])), (pl, .inr (4, [.int gv, .int lim, .ref ca, .int cnt, .ref la])), (ca, .inl (g.2 3, 6, .inr (.inr (.inr (.inr fc))))), (sa, .inr (7, [.ref so, .ref sv, .ref sb, .ref ss, .int wt])), (sb, .inl (g.2 0, 6, .inl (r_c_set 6 fb cy 1)))] H := hP
  replace hD : va_D A [(h0, .inr (11, [.ref pl, .ref sa, .ref ea, .ref oa, .ref tsa, .ref usa, .ref vea, .ref lka, .ref ra, .ref sha, .ref tra, .int lf, .int std, .int tkd, .int tck])), (pl, .inr (4, [.int gv, .int lim, .ref ca, .int cnt, .ref la])), (ca, .inl (g.2 3, 6, .inr (.inr (.inr (.inr fc))))), (sa, .inr (7, [.ref so, .ref sv, .ref sb, .ref ss, .int wt])), (sb, .inl (g.2 0, 6, .inl (r_c_set 6 fb cy 1)))] := hD
  refine nx_i (v := (r_c_get 6 fb cy)) hre ?_
  refine lv_iload_n hx hb dX11_burst_35 rfl (lv_at hl 0 rfl) ?_
  refine lv_icmp_ne (tgt := 43) hx hb dX11_burst_36 (by decide) (fun c10 => ?_) (fun c10 => ?_)
  · refine lv_iconst (v := 1) hx hb dX11_burst_43 (by decide) ?_
    exact retI C hS (r_c_set 6 fb cy 1) ⟨(by simp only [sb_r, if_pos hfc, if_pos f3, if_neg (pa_some f3), if_neg c4, if_neg c10]), (by simp only [sb_f, if_pos hfc, if_pos f3, if_neg (pa_some f3), if_neg c4, if_neg c10])⟩ hP hD (Nat.le_of_ble_eq_true rfl) (Nat.le_of_ble_eq_true rfl) dX11_burst_44
  refine lv_iconst (v := 0) hx hb dX11_burst_39 (by decide) ?_
  refine lv_goto (tgt := 44) hx hb dX11_burst_40 (by decide) ?_
  exact retI C hS (r_c_set 6 fb cy 1) ⟨(by simp only [sb_r, if_pos hfc, if_pos f3, if_neg (pa_some f3), if_neg c4, if_pos c10]), (by simp only [sb_f, if_pos hfc, if_pos f3, if_neg (pa_some f3), if_neg c4, if_pos c10])⟩ hP hD (Nat.le_of_ble_eq_true rfl) (Nat.le_of_ble_eq_true rfl) dX11_burst_44
theorem hc_X11_mover_X1 : ∀ w ∈ wsX10, w ∈ wsX11_mover := fun w h => List.mem_cons_of_mem _ (List.mem_append_right _ h)
theorem hc_X11_mover_X11 : ∀ w ∈ wsX110, w ∈ wsX11_mover := fun w h => List.mem_cons_of_mem _ (List.mem_append_left _ (List.mem_append_right _ h))
theorem hc_X11_sum_X1 : ∀ w ∈ wsX10, w ∈ wsX11_sum := fun w h => List.mem_cons_of_mem _ (List.mem_append_left _ (List.mem_append_left _ (List.mem_append_right _ h)))
theorem hc_X11_sum_X11 : ∀ w ∈ wsX110, w ∈ wsX11_sum := fun w h => List.mem_cons_of_mem _ (List.mem_append_left _ (List.mem_append_left _ (List.mem_append_left _ (List.mem_append_right _ h))))
theorem hc_X11_sum_X7 : ∀ w ∈ wsX70, w ∈ wsX11_sum := fun w h => List.mem_cons_of_mem _ (List.mem_append_left _ (List.mem_append_right _ h))
theorem hc_X11_sum_X8 : ∀ w ∈ wsX80, w ∈ wsX11_sum := fun w h => List.mem_cons_of_mem _ (List.mem_append_right _ h)
theorem hc_X3_add_X3 : ∀ w ∈ wsX30, w ∈ wsX3_add := fun w h => List.mem_cons_of_mem _ (List.mem_append_right _ h)
theorem hc_X11_order_X11 : ∀ w ∈ wsX110, w ∈ wsX11_order := fun w h => List.mem_cons_of_mem _ (List.mem_append_left _ (List.mem_append_left _ (List.mem_append_right _ h)))
theorem hc_X11_order_X3 : ∀ w ∈ wsX30, w ∈ wsX11_order := fun w h => List.mem_cons_of_mem _ (List.mem_append_left _ (List.mem_append_right _ h))
theorem TB_set {ft : Nat → Int32} (h : TB ft) {n : Nat} {i v : Int32} (hv : v.toInt ≤ 200) : TB (r_c_set n ft i v) := by
  unfold r_c_set
  split
  · exact h
  · split
    · exact h
    · intro c
      by_cases e : c = i.toNatClampNeg
      · subst e; rw [pk_us]; exact hv
      · rw [pk_un e]; exact h c
theorem within_200 {t : Int32} (h : ¬ r_c_within t 0 200 = 0) : t.toInt ≤ 200 := by
  rw [within_eq] at h
  by_cases h2 : (0 : Int32).toInt ≤ t.toInt ∧ t.toInt ≤ (200 : Int32).toInt
  · exact h2.2
  · rw [if_neg h2] at h; exact absurd rfl h
theorem hc_X5_add_X5 : ∀ w ∈ wsX50, w ∈ wsX5_add := fun w h => List.mem_cons_of_mem _ (List.mem_append_right _ h)
set_option maxRecDepth 100000 in
set_option maxHeartbeats 4000000 in
theorem r_add (l : Launch) (g : Gt) (ra : Nat) (rt : Nat) (ro : Nat) (rx : Nat) (rc : Int32) (frt : Nat → Int32) (fro : Nat → Int32) (frx : Nat → Int32) (tt : Int32) (cy : Int32) (xx : Int32) (hTB : TB frt) (ht : tt.toInt ≤ 200) : Ctr l g yX5_add wsX5_add ({ frames := 1, cells := 0, slots := 0, locals := 22 } : Room) [.ref ra, .int tt, .int cy, .int xx] [(ra, .inr (5, [.ref rt, .ref ro, .ref rx, .int rc])), (rt, .inl (g.2 0, 20, .inl frt)), (ro, .inl (g.2 0, 20, .inl fro)), (rx, .inl (g.2 0, 20, .inl frx))] (fun A => QI g A (fun r (u : Int32 × (Nat → Int32) × (Nat → Int32) × (Nat → Int32)) => (r = 0 ∨ r = 1) ∧ (TB u.2.1) ∧ (RADD rc r u.1)) (fun (u : Int32 × (Nat → Int32) × (Nat → Int32) × (Nat → Int32)) => [(ra, .inr (5, [.ref rt, .ref ro, .ref rx, .int u.1])), (rt, .inl (g.2 0, 20, .inl u.2.1)), (ro, .inl (g.2 0, 20, .inl u.2.2.1)), (rx, .inl (g.2 0, 20, .inl u.2.2.2))])) := by
  refine Ctr.of (cc := cX5_add) (maxL := 4) (ret := (some .boolean)) (by decide) rfl (Nat.le_of_ble_eq_true rfl) ?_
  intro p e s m below meth c A ls H C hP hD hA hS hl
  obtain ⟨hx, hb, hr, hts, hown, hlocks, hml, hin, hKN⟩ := id C
  have hK := hKN.1
  have hN := hKN.2
  have F : CallFix p m c cX5_add 4 s _ wsX5_add yX5_add.cls := ⟨hx, hb, hml, hown, hts⟩
  have hl : lv_has ls 4 [(0, .ref ra), (1, .int tt), (2, .int cy), (3, .int xx)] := hl
  refine lv_aload_n hx hb dX5_add_0 rfl (lv_at hl 0 rfl) ?_
  refine va_get (D := g.1) (ci := 5) (v := .int rc) (C := RX5) (T := TX5) (N := 4) hx hb hts hc_X5_add_X5 hown hK hP 0 rfl rfl 3 (by decide) (hts (.fieldLink RX5 21 "OilPush$Readings" "count" "I") (List.mem_of_getElem? (i := 1) rfl)) (fun _ h => h) rfl dX5_add_1 ?_
  refine lv_bipush (v := 20) hx hb dX5_add_4 (by decide) ?_
  refine lv_icmp_lt (tgt := 11) hx hb dX5_add_6 (by decide) (fun c1 => ?_) (fun c1 => ?_)
  · refine lv_aload_n hx hb dX5_add_11 rfl (lv_at hl 0 rfl) ?_
    refine va_get (D := g.1) (ci := 5) (v := .ref rt) (C := RX5) (T := TX5) (N := 4) hx hb hts hc_X5_add_X5 hown hK hP 0 rfl rfl 0 (by decide) (hts (.fieldLink RX5 9 "OilPush$Readings" "time" "[I") (List.mem_of_getElem? (i := 2) rfl)) (fun _ h => h) rfl dX5_add_12 ?_
    refine lv_aload_n hx hb dX5_add_15 rfl (lv_at hl 0 rfl) ?_
    refine va_get (D := g.1) (ci := 5) (v := .int rc) (C := RX5) (T := TX5) (N := 4) hx hb hts hc_X5_add_X5 hown hK hP 0 rfl rfl 3 (by decide) (hts (.fieldLink RX5 21 "OilPush$Readings" "count" "I") (List.mem_of_getElem? (i := 1) rfl)) (fun _ h => h) rfl dX5_add_16 ?_
    refine lv_iload_n hx hb dX5_add_19 rfl (lv_at hl 1 rfl) ?_
    refine kV (rnN (host := "OilPush") (As := [.ref rt, .int rc, .int tt]) (rest := []) C (c_set l g rt 20 frt rc tt (by decide)) 3 gX5_add_X11_set_n25 rfl (nst_18 hN) (by decide +kernel) (by decide +kernel) (by decide +kernel) ⟨(Nat.le_of_ble_eq_true rfl), (Nat.le_of_ble_eq_true rfl)⟩ rfl hl.1 rfl (Nat.le_of_ble_eq_true rfl) dX5_add_20 ⟨(Nat.le_of_ble_eq_true rfl), (Nat.le_of_ble_eq_true rfl)⟩) (spM0 [false, true, false, false] hP hD rfl) hA hS (fun u3 H locs hw hP hD hS => ?_)
    replace hP : va_P g.1 vwCl [(ra, .inr (5, [.ref rt, .ref ro, .ref rx, .int rc])), (rt, .inl (g.2 0, 20, .inl (r_c_set 20 frt rc tt))), (ro, .inl (g.2 0, 20, .inl fro)), (rx, .inl (g.2 0, 20, .inl frx))] H := hP
    replace hD : va_D A [(ra, .inr (5, [.ref rt, .ref ro, .ref rx, .int rc])), (rt, .inl (g.2 0, 20, .inl (r_c_set 20 frt rc tt))), (ro, .inl (g.2 0, 20, .inl fro)), (rx, .inl (g.2 0, 20, .inl frx))] := hD
    refine lv_aload_n hx hb dX5_add_23 rfl (lv_at hl 0 rfl) ?_
    refine va_get (D := g.1) (ci := 5) (v := .ref ro) (C := RX5) (T := TX5) (N := 4) hx hb hts hc_X5_add_X5 hown hK hP 0 rfl rfl 1 (by decide) (hts (.fieldLink RX5 15 "OilPush$Readings" "of" "[I") (List.mem_of_getElem? (i := 3) rfl)) (fun _ h => h) rfl dX5_add_24 ?_
    refine lv_aload_n hx hb dX5_add_27 rfl (lv_at hl 0 rfl) ?_
    refine va_get (D := g.1) (ci := 5) (v := .int rc) (C := RX5) (T := TX5) (N := 4) hx hb hts hc_X5_add_X5 hown hK hP 0 rfl rfl 3 (by decide) (hts (.fieldLink RX5 21 "OilPush$Readings" "count" "I") (List.mem_of_getElem? (i := 1) rfl)) (fun _ h => h) rfl dX5_add_28 ?_
    refine lv_iload_n hx hb dX5_add_31 rfl (lv_at hl 2 rfl) ?_
    refine kV (rnN (host := "OilPush") (As := [.ref ro, .int rc, .int cy]) (rest := []) C (c_set l g ro 20 fro rc cy (by decide)) 3 gX5_add_X11_set_n25 rfl (nst_18 hN) (by decide +kernel) (by decide +kernel) (by decide +kernel) ⟨(Nat.le_of_ble_eq_true rfl), (Nat.le_of_ble_eq_true rfl)⟩ rfl hl.1 rfl (Nat.le_of_ble_eq_true rfl) dX5_add_32 ⟨(Nat.le_of_ble_eq_true rfl), (Nat.le_of_ble_eq_true rfl)⟩) (spM0 [false, false, true, false] hP hD rfl) hA hS (fun u5 H locs hw hP hD hS => ?_)
    replace hP : va_P g.1 vwCl [(ra, .inr (5, [.ref rt, .ref ro, .ref rx, .int rc])), (rt, .inl (g.2 0, 20, .inl (r_c_set 20 frt rc tt))), (ro, .inl (g.2 0, 20, .inl (r_c_set 20 fro rc cy))), (rx, .inl (g.2 0, 20, .inl frx))] H := hP
    replace hD : va_D A [(ra, .inr (5, [.ref rt, .ref ro, .ref rx, .int rc])), (rt, .inl (g.2 0, 20, .inl (r_c_set 20 frt rc tt))), (ro, .inl (g.2 0, 20, .inl (r_c_set 20 fro rc cy))), (rx, .inl (g.2 0, 20, .inl frx))] := hD
    refine lv_aload_n hx hb dX5_add_35 rfl (lv_at hl 0 rfl) ?_
    refine va_get (D := g.1) (ci := 5) (v := .ref rx) (C := RX5) (T := TX5) (N := 4) hx hb hts hc_X5_add_X5 hown hK hP 0 rfl rfl 2 (by decide) (hts (.fieldLink RX5 18 "OilPush$Readings" "oil" "[I") (List.mem_of_getElem? (i := 4) rfl)) (fun _ h => h) rfl dX5_add_36 ?_
    refine lv_aload_n hx hb dX5_add_39 rfl (lv_at hl 0 rfl) ?_
    refine va_get (D := g.1) (ci := 5) (v := .int rc) (C := RX5) (T := TX5) (N := 4) hx hb hts hc_X5_add_X5 hown hK hP 0 rfl rfl 3 (by decide) (hts (.fieldLink RX5 21 "OilPush$Readings" "count" "I") (List.mem_of_getElem? (i := 1) rfl)) (fun _ h => h) rfl dX5_add_40 ?_
    refine lv_iload_n hx hb dX5_add_43 rfl (lv_at hl 3 rfl) ?_
    refine kV (rnN (host := "OilPush") (As := [.ref rx, .int rc, .int xx]) (rest := []) C (c_set l g rx 20 frx rc xx (by decide)) 3 gX5_add_X11_set_n25 rfl (nst_18 hN) (by decide +kernel) (by decide +kernel) (by decide +kernel) ⟨(Nat.le_of_ble_eq_true rfl), (Nat.le_of_ble_eq_true rfl)⟩ rfl hl.1 rfl (Nat.le_of_ble_eq_true rfl) dX5_add_44 ⟨(Nat.le_of_ble_eq_true rfl), (Nat.le_of_ble_eq_true rfl)⟩) (spM0 [false, false, false, true] hP hD rfl) hA hS (fun u7 H locs hw hP hD hS => ?_)
    replace hP : va_P g.1 vwCl [(ra, .inr (5, [.ref rt, .ref ro, .ref rx, .int rc])), (rt, .inl (g.2 0, 20, .inl (r_c_set 20 frt rc tt))), (ro, .inl (g.2 0, 20, .inl (r_c_set 20 fro rc cy))), (rx, .inl (g.2 0, 20, .inl (r_c_set 20 frx rc xx)))] H := hP
    replace hD : va_D A [(ra, .inr (5, [.ref rt, .ref ro, .ref rx, .int rc])), (rt, .inl (g.2 0, 20, .inl (r_c_set 20 frt rc tt))), (ro, .inl (g.2 0, 20, .inl (r_c_set 20 fro rc cy))), (rx, .inl (g.2 0, 20, .inl (r_c_set 20 frx rc xx)))] := hD
    refine lv_aload_n hx hb dX5_add_47 rfl (lv_at hl 0 rfl) ?_
    refine lv_dup hx hb dX5_add_48 rfl ?_
    refine va_get (D := g.1) (ci := 5) (v := .int rc) (C := RX5) (T := TX5) (N := 4) hx hb hts hc_X5_add_X5 hown hK hP 0 rfl rfl 3 (by decide) (hts (.fieldLink RX5 21 "OilPush$Readings" "count" "I") (List.mem_of_getElem? (i := 1) rfl)) (fun _ h => h) rfl dX5_add_49 ?_
    refine lv_iconst (v := 1) hx hb dX5_add_52 (by decide) ?_
    refine lv_iadd hx hb dX5_add_53 ?_
    refine va_put (D := g.1) (ci := 5) (v := .int (rc + 1)) (ty := .int) (C := RX5) (T := TX5) (N := 4) hx hb hts hc_X5_add_X5 tyX5 tyX5_ok nmX5 hown hK hP hD hS 0 rfl rfl 3 (by decide) (hts (.fieldLink RX5 21 "OilPush$Readings" "count" "I") (List.mem_of_getElem? (i := 1) rfl)) (fun _ h => h) rfl (by decide +kernel) rfl rfl (Nat.le_of_ble_eq_true rfl) dX5_add_54 (fun H locs hP hD hS => ?_)
    replace hP : va_P g.1 vwCl [(ra, .inr (5, [.ref rt, .ref ro, .ref rx, .int (rc + 1)])), (rt, .inl (g.2 0, 20, .inl (r_c_set 20 frt rc tt))), (ro, .inl (g.2 0, 20, .inl (r_c_set 20 fro rc cy))), (rx, .inl (g.2 0, 20, .inl (r_c_set 20 frx rc xx)))] H := hP
    replace hD : va_D A [(ra, .inr (5, [.ref rt, .ref ro, .ref rx, .int (rc + 1)])), (rt, .inl (g.2 0, 20, .inl (r_c_set 20 frt rc tt))), (ro, .inl (g.2 0, 20, .inl (r_c_set 20 fro rc cy))), (rx, .inl (g.2 0, 20, .inl (r_c_set 20 frx rc xx)))] := hD
    refine lv_iconst (v := 1) hx hb dX5_add_57 (by decide) ?_
    exact retZ C rfl hS ((rc + 1), (r_c_set 20 frt rc tt), (r_c_set 20 fro rc cy), (r_c_set 20 frx rc xx)) ⟨(Or.inr rfl), (TB_set hTB ht), (Or.inl ⟨c1, rfl, rfl⟩)⟩ hP hD (Nat.le_of_ble_eq_true rfl) (Nat.le_of_ble_eq_true rfl) dX5_add_58
  refine lv_iconst (v := 0) hx hb dX5_add_9 (by decide) ?_
  exact retZ C rfl hS (rc, frt, fro, frx) ⟨(Or.inl rfl), hTB, (Or.inr ⟨c1, rfl, rfl⟩)⟩ hP hD (Nat.le_of_ble_eq_true rfl) (Nat.le_of_ble_eq_true rfl) dX5_add_10
theorem hc_X11_reading_X11 : ∀ w ∈ wsX110, w ∈ wsX11_reading := fun w h => List.mem_cons_of_mem _ (List.mem_append_left _ (List.mem_append_left _ (List.mem_append_left _ (List.mem_append_left _ (List.mem_append_left _ (List.mem_append_right _ h))))))
theorem hc_X11_reading_X5 : ∀ w ∈ wsX50, w ∈ wsX11_reading := fun w h => List.mem_cons_of_mem _ (List.mem_append_left _ (List.mem_append_left _ (List.mem_append_left _ (List.mem_append_left _ (List.mem_append_right _ h)))))
set_option maxRecDepth 100000 in
set_option maxHeartbeats 4000000 in
theorem x_reading (l : Launch) (g : Gt) (h0 : Nat) (sha : Nat) (tra : Nat) (lf : Int32) (std : Int32) (tkd : Int32) (tck : Int32) (sa : Nat) (ea : Nat) (oa : Nat) (tsa : Nat) (usa : Nat) (vea : Nat) (lka : Nat) (ra : Nat) (pl : Nat) (gv : Int32) (lim : Int32) (ca : Nat) (cnt : Int32) (la : Nat) (fc : Nat → Option Nat) (rt : Nat) (ro : Nat) (rx : Nat) (rc : Int32) (frt : Nat → Int32) (fro : Nat → Int32) (frx : Nat → Int32) (tt : Int32) (cy : Int32) (xx : Int32) (cs : List Cy) (hcs : CS cs cnt fc) (hTB : TB frt) : Ctr l g yX11_reading wsX11_reading ({ frames := 2, cells := 0, slots := 0, locals := 45 } : Room) [.ref h0, .int tt, .int cy, .int xx] ([(h0, .inr (11, [.ref pl, .ref sa, .ref ea, .ref oa, .ref tsa, .ref usa, .ref vea, .ref lka, .ref ra, .ref sha, .ref tra, .int lf, .int std, .int tkd, .int tck])), (pl, .inr (4, [.int gv, .int lim, .ref ca, .int cnt, .ref la])), (ca, .inl (g.2 3, 6, .inr (.inr (.inr (.inr fc))))), (ra, .inr (5, [.ref rt, .ref ro, .ref rx, .int rc])), (rt, .inl (g.2 0, 20, .inl frt)), (ro, .inl (g.2 0, 20, .inl fro)), (rx, .inl (g.2 0, 20, .inl frx))] ++ cysW g cs) (fun A => QI g A (fun r (u : Int32 × (Nat → Int32) × (Nat → Int32) × (Nat → Int32)) => (TB u.2.1) ∧ (r = sr_r cnt rc (fF yA cs cy.toNatClampNeg * fF yS cs cy.toNatClampNeg) tt cy xx) ∧ (u.1 = sr_n cnt rc (fF yA cs cy.toNatClampNeg * fF yS cs cy.toNatClampNeg) tt cy xx)) (fun (u : Int32 × (Nat → Int32) × (Nat → Int32) × (Nat → Int32)) => ([(h0, .inr (11, [.ref pl, .ref sa, .ref ea, .ref oa, .ref tsa, .ref usa, .ref vea, .ref lka, .ref ra, .ref sha, .ref tra, .int lf, .int std, .int tkd, .int tck])), (pl, .inr (4, [.int gv, .int lim, .ref ca, .int cnt, .ref la])), (ca, .inl (g.2 3, 6, .inr (.inr (.inr (.inr fc))))), (ra, .inr (5, [.ref rt, .ref ro, .ref rx, .int u.1])), (rt, .inl (g.2 0, 20, .inl u.2.1)), (ro, .inl (g.2 0, 20, .inl u.2.2.1)), (rx, .inl (g.2 0, 20, .inl u.2.2.2))] ++ cysW g cs))) := by
  refine Ctr.of (cc := cX11_reading) (maxL := 5) (ret := (some .int)) (by decide) rfl (Nat.le_of_ble_eq_true rfl) ?_
  intro p e s m below meth c A ls H C hP hD hA hS hl
  obtain ⟨hx, hb, hr, hts, hown, hlocks, hml, hin, hKN⟩ := id C
  have hK := hKN.1
  have hN := hKN.2
  have F : CallFix p m c cX11_reading 5 s _ wsX11_reading yX11_reading.cls := ⟨hx, hb, hml, hown, hts⟩
  have hl : lv_has ls 5 [(0, .ref h0), (1, .int tt), (2, .int cy), (3, .int xx)] := hl
  refine lv_aload_n hx hb dX11_reading_0 rfl (lv_at hl 0 rfl) ?_
  refine va_get (D := g.1) (ci := 11) (v := .ref pl) (C := RX11) (T := TX11) (N := 15) hx hb hts hc_X11_reading_X11 hown hK hP 0 rfl rfl 0 (by decide) (hts (.fieldLink RX11 12 "OilPush" "plant" "LOilPush$Plant;") (List.mem_of_getElem? (i := 1) rfl)) (fun _ h => h) rfl dX11_reading_1 ?_
  refine lv_iload_n hx hb dX11_reading_4 rfl (lv_at hl 2 rfl) ?_
  refine kQ (rnV (As := [.int cy]) (rest := []) (Cn := RX4) C (p_at l g pl gv lim ca cnt la fc cy) 1 gX11_reading_X4_at rfl (by decide +kernel) ⟨(Nat.le_of_ble_eq_true rfl), (Nat.le_of_ble_eq_true rfl)⟩ hP (k := 1) (ci := 4) rfl rfl rfl rfl hl.1 rfl (Nat.le_of_ble_eq_true rfl) dX11_reading_5 ⟨(Nat.le_of_ble_eq_true rfl), (Nat.le_of_ble_eq_true rfl)⟩) (spM (X := [(h0, .inr (11, [.ref pl, .ref sa, .ref ea, .ref oa, .ref tsa, .ref usa, .ref vea, .ref lka, .ref ra, .ref sha, .ref tra, .int lf, .int std, .int tkd, .int tck])), (pl, .inr (4, [.int gv, .int lim, .ref ca, .int cnt, .ref la])), (ca, .inl (g.2 3, 6, .inr (.inr (.inr (.inr fc))))), (ra, .inr (5, [.ref rt, .ref ro, .ref rx, .int rc])), (rt, .inl (g.2 0, 20, .inl frt)), (ro, .inl (g.2 0, 20, .inl fro)), (rx, .inl (g.2 0, 20, .inl frx))]) (pl := cysW g cs) [false, true, true, false, false, false, false] hP hD rfl) hA hS (fun r1 u2 H locs hw hP hD hS => ?_)
  have f3 := hw
  replace hP : va_P g.1 vwCl ([(h0, .inr (11, [.ref pl, .ref sa, .ref ea, .ref oa, .ref tsa, .ref usa, .ref vea, .ref lka, .ref ra, .ref sha, .ref tra, .int lf, .int std, .int tkd, .int tck])), (pl, .inr (4, [.int gv, .int lim, .ref ca, .int cnt, .ref la])), (ca, .inl (g.2 3, 6, .inr (.inr (.inr (.inr fc))))), (ra, .inr (5, [.ref rt, .ref ro, .ref rx, .int rc])), (rt, .inl (g.2 0, 20, .inl frt)), (ro, .inl (g.2 0, 20, .inl fro)), (rx, .inl (g.2 0, 20, .inl frx))] ++ cysW g cs) H := hP
  replace hD : va_D A ([(h0, .inr (11, [.ref pl, .ref sa, .ref ea, .ref oa, .ref tsa, .ref usa, .ref vea, .ref lka, .ref ra, .ref sha, .ref tra, .int lf, .int std, .int tkd, .int tck])), (pl, .inr (4, [.int gv, .int lim, .ref ca, .int cnt, .ref la])), (ca, .inl (g.2 3, 6, .inr (.inr (.inr (.inr fc))))), (ra, .inr (5, [.ref rt, .ref ro, .ref rx, .int rc])), (rt, .inl (g.2 0, 20, .inl frt)), (ro, .inl (g.2 0, 20, .inl fro)), (rx, .inl (g.2 0, 20, .inl frx))] ++ cysW g cs) := hD
  rcases at_cases hcs f3 with ⟨hr9, hout⟩ | ⟨l1, y9, l2, hcse, hce, hr9⟩
  · subst hr9
    refine nx_v (v := .null) rfl ?_
    refine lv_astoreN (lv' := [(4, .null), (0, .ref h0), (1, .int tt), (2, .int cy), (3, .int xx)]) hx hb dX11_reading_8 hl (by decide) rfl (fun ls hl => ?_)
    refine lv_aloadN hx hb dX11_reading_10 (lv_at hl 0 rfl) ?_
    refine lv_ifnonnullN hx hb dX11_reading_12 ?_
    refine lv_iconst (v := -1) hx hb dX11_reading_15 (by decide) ?_
    exact retI C hS (rc, frt, fro, frx) ⟨hTB, (by simp only [sr_r, if_pos hcs, if_pos hTB, if_pos f3, if_pos (pa_null hcs f3)]), (by simp only [sr_n, if_pos hcs, if_pos hTB, if_pos f3, if_pos (pa_null hcs f3)])⟩ hP hD (Nat.le_of_ble_eq_true rfl) (Nat.le_of_ble_eq_true rfl) dX11_reading_16
  subst hr9
  obtain ⟨yb, yr, yk, ynum, yar, ysk, ylc, ycr, yfl, yrow⟩ := y9
  refine nx_v (v := .ref yb) rfl ?_
  replace hP := zk_csP hcse hP; replace hD := zk_csD hcse hD
  replace hP := cys_splitP hP
  replace hD := cys_splitD hD
  replace hP : va_P g.1 vwCl ([(h0, .inr (11, [.ref pl, .ref sa, .ref ea, .ref oa, .ref tsa, .ref usa, .ref vea, .ref lka, .ref ra, .ref sha, .ref tra, .int lf, .int std, .int tkd, .int tck])), (pl, .inr (4, [.int gv, .int lim, .ref ca, .int cnt, .ref la])), (ca, .inl (g.2 3, 6, .inr (.inr (.inr (.inr fc))))), (ra, .inr (5, [.ref rt, .ref ro, .ref rx, .int rc])), (rt, .inl (g.2 0, 20, .inl frt)), (ro, .inl (g.2 0, 20, .inl fro)), (rx, .inl (g.2 0, 20, .inl frx)), (yb, .inr (ckI yk, [.int ynum, .int yar, .int ysk, .ref yr, .int ylc, .int ycr, .int yfl])), (yr, .inl (g.2 0, 10, .inl yrow))] ++ (cysW g l1 ++ cysW g l2)) H := hP
  replace hD : va_D A ([(h0, .inr (11, [.ref pl, .ref sa, .ref ea, .ref oa, .ref tsa, .ref usa, .ref vea, .ref lka, .ref ra, .ref sha, .ref tra, .int lf, .int std, .int tkd, .int tck])), (pl, .inr (4, [.int gv, .int lim, .ref ca, .int cnt, .ref la])), (ca, .inl (g.2 3, 6, .inr (.inr (.inr (.inr fc))))), (ra, .inr (5, [.ref rt, .ref ro, .ref rx, .int rc])), (rt, .inl (g.2 0, 20, .inl frt)), (ro, .inl (g.2 0, 20, .inl fro)), (rx, .inl (g.2 0, 20, .inl frx)), (yb, .inr (ckI yk, [.int ynum, .int yar, .int ysk, .ref yr, .int ylc, .int ycr, .int yfl])), (yr, .inl (g.2 0, 10, .inl yrow))] ++ (cysW g l1 ++ cysW g l2)) := hD
  refine lv_astore (lv' := [(4, .ref yb), (0, .ref h0), (1, .int tt), (2, .int cy), (3, .int xx)]) hx hb dX11_reading_8 hl (by decide) rfl (fun ls hl => ?_)
  refine lv_aload hx hb dX11_reading_10 (lv_at hl 0 rfl) ?_
  refine lv_ifnonnull (tgt := 17) hx hb dX11_reading_12 (by decide) ?_
  refine lv_iload_n hx hb dX11_reading_17 rfl (lv_at hl 2 rfl) ?_
  refine lv_iconst (v := 0) hx hb dX11_reading_18 (by decide) ?_
  refine lv_sipush (v := 200) hx hb dX11_reading_19 (by decide) ?_
  refine pureIS (As := [.int tt, .int 0, .int 200]) (rest := []) F (c_within l tt 0 200) 3 gX11_reading_X11_within rfl (by decide +kernel) rfl rfl ⟨(Nat.le_of_ble_eq_true rfl), (Nat.le_of_ble_eq_true rfl)⟩ (Nat.le_of_ble_eq_true rfl) (Nat.le_of_ble_eq_true rfl) rfl hl.1 rfl (Nat.le_of_ble_eq_true rfl) dX11_reading_22 ?_
  refine lv_if_eq (tgt := 41) hx hb dX11_reading_25 (by decide) (fun c4 => ?_) (fun c4 => ?_)
  · refine lv_bipush (v := -2) hx hb dX11_reading_41 (by decide) ?_
    replace hP : va_P g.1 vwCl ([(h0, .inr (11, [.ref pl, .ref sa, .ref ea, .ref oa, .ref tsa, .ref usa, .ref vea, .ref lka, .ref ra, .ref sha, .ref tra, .int lf, .int std, .int tkd, .int tck])), (pl, .inr (4, [.int gv, .int lim, .ref ca, .int cnt, .ref la])), (ca, .inl (g.2 3, 6, .inr (.inr (.inr (.inr fc))))), (ra, .inr (5, [.ref rt, .ref ro, .ref rx, .int rc])), (rt, .inl (g.2 0, 20, .inl frt)), (ro, .inl (g.2 0, 20, .inl fro)), (rx, .inl (g.2 0, 20, .inl frx))] ++ cysW g (l1 ++ (yb, yr, yk, ynum, yar, ysk, ylc, ycr, yfl, yrow) :: l2)) H := cys_joinP (X := [(h0, .inr (11, [.ref pl, .ref sa, .ref ea, .ref oa, .ref tsa, .ref usa, .ref vea, .ref lka, .ref ra, .ref sha, .ref tra, .int lf, .int std, .int tkd, .int tck])), (pl, .inr (4, [.int gv, .int lim, .ref ca, .int cnt, .ref la])), (ca, .inl (g.2 3, 6, .inr (.inr (.inr (.inr fc))))), (ra, .inr (5, [.ref rt, .ref ro, .ref rx, .int rc])), (rt, .inl (g.2 0, 20, .inl frt)), (ro, .inl (g.2 0, 20, .inl fro)), (rx, .inl (g.2 0, 20, .inl frx))]) (y := (yb, yr, yk, ynum, yar, ysk, ylc, ycr, yfl, yrow)) (hP.part [0, 1, 2, 3, 4, 5, 6, 7, 8] rfl)
    replace hD : va_D A ([(h0, .inr (11, [.ref pl, .ref sa, .ref ea, .ref oa, .ref tsa, .ref usa, .ref vea, .ref lka, .ref ra, .ref sha, .ref tra, .int lf, .int std, .int tkd, .int tck])), (pl, .inr (4, [.int gv, .int lim, .ref ca, .int cnt, .ref la])), (ca, .inl (g.2 3, 6, .inr (.inr (.inr (.inr fc))))), (ra, .inr (5, [.ref rt, .ref ro, .ref rx, .int rc])), (rt, .inl (g.2 0, 20, .inl frt)), (ro, .inl (g.2 0, 20, .inl fro)), (rx, .inl (g.2 0, 20, .inl frx))] ++ cysW g (l1 ++ (yb, yr, yk, ynum, yar, ysk, ylc, ycr, yfl, yrow) :: l2)) := cys_joinD (X := [(h0, .inr (11, [.ref pl, .ref sa, .ref ea, .ref oa, .ref tsa, .ref usa, .ref vea, .ref lka, .ref ra, .ref sha, .ref tra, .int lf, .int std, .int tkd, .int tck])), (pl, .inr (4, [.int gv, .int lim, .ref ca, .int cnt, .ref la])), (ca, .inl (g.2 3, 6, .inr (.inr (.inr (.inr fc))))), (ra, .inr (5, [.ref rt, .ref ro, .ref rx, .int rc])), (rt, .inl (g.2 0, 20, .inl frt)), (ro, .inl (g.2 0, 20, .inl fro)), (rx, .inl (g.2 0, 20, .inl frx))]) (y := (yb, yr, yk, ynum, yar, ysk, ylc, ycr, yfl, yrow)) (hD.part [0, 1, 2, 3, 4, 5, 6, 7, 8] rfl rfl)
    replace hP := zk_csP hcse.symm hP; replace hD := zk_csD hcse.symm hD
    exact retI C hS (rc, frt, fro, frx) ⟨hTB, (by simp only [sr_r, if_pos hcs, if_pos hTB, if_pos f3, if_neg (pa_some f3), if_pos c4, (show fF yA cs cy.toNatClampNeg = yar from fF_cy yA hcs hcse hce), (show fF yS cs cy.toNatClampNeg = ysk from fF_cy yS hcs hcse hce)]), (by simp only [sr_n, if_pos hcs, if_pos hTB, if_pos f3, if_neg (pa_some f3), if_pos c4, (show fF yA cs cy.toNatClampNeg = yar from fF_cy yA hcs hcse hce), (show fF yS cs cy.toNatClampNeg = ysk from fF_cy yS hcs hcse hce)])⟩ hP hD (Nat.le_of_ble_eq_true rfl) (Nat.le_of_ble_eq_true rfl) dX11_reading_43
  refine lv_iload_n hx hb dX11_reading_28 rfl (lv_at hl 4 rfl) ?_
  refine lv_iconst (v := 0) hx hb dX11_reading_29 (by decide) ?_
  refine lv_aload hx hb dX11_reading_30 (lv_at hl 0 rfl) ?_
  refine kI (ck_elim (P := fun k9 => va_P g.1 vwCl ([(h0, .inr (11, [.ref pl, .ref sa, .ref ea, .ref oa, .ref tsa, .ref usa, .ref vea, .ref lka, .ref ra, .ref sha, .ref tra, .int lf, .int std, .int tkd, .int tck])), (pl, .inr (4, [.int gv, .int lim, .ref ca, .int cnt, .ref la])), (ca, .inl (g.2 3, 6, .inr (.inr (.inr (.inr fc))))), (ra, .inr (5, [.ref rt, .ref ro, .ref rx, .int rc])), (rt, .inl (g.2 0, 20, .inl frt)), (ro, .inl (g.2 0, 20, .inl fro)), (rx, .inl (g.2 0, 20, .inl frx)), (yb, .inr (ckI k9, [.int ynum, .int yar, .int ysk, .ref yr, .int ylc, .int ycr, .int yfl])), (yr, .inl (g.2 0, 10, .inl yrow))] ++ (cysW g l1 ++ cysW g l2)) H → KR p l e _ s m _ below meth c _ _ _ _ 0 0 32 ls [.ref yb, .int 0, .int xx] [.int 0, .int xx] g A [(yb, .inr (ckI k9, [.int ynum, .int yar, .int ysk, .ref yr, .int ylc, .int ycr, .int yfl]))] (fun A => QI g A (fun r (_ : Unit) => r = (yar * ysk)) (fun u : Unit => [(yb, .inr (ckI k9, [.int ynum, .int yar, .int ysk, .ref yr, .int ylc, .int ycr, .int yfl]))]))) (fun hP => (rnV (As := []) (rest := [.int 0, .int xx]) (Cn := RX0) C (y0_room l g yb yr ynum yar ysk ylc ycr yfl) 0 gX11_reading_X0_room rfl (by decide +kernel) ⟨(Nat.le_of_ble_eq_true rfl), (Nat.le_of_ble_eq_true rfl)⟩ hP (k := 7) (ci := 0) rfl rfl rfl rfl hl.1 rfl (Nat.le_of_ble_eq_true rfl) dX11_reading_32 ⟨(Nat.le_of_ble_eq_true rfl), (Nat.le_of_ble_eq_true rfl)⟩)) (fun hP => (rnU (As := []) (rest := [.int 0, .int xx]) (Cn := RX2) C (y2_room l g yb yr ynum yar ysk ylc ycr yfl) 0 gX11_reading_X0_room_u145X2 rfl rfl (by decide +kernel) ⟨(Nat.le_of_ble_eq_true rfl), (Nat.le_of_ble_eq_true rfl)⟩ hP (k := 7) (ci := 2) rfl rfl rfl rfl hl.1 rfl (Nat.le_of_ble_eq_true rfl) dX11_reading_32 ⟨(Nat.le_of_ble_eq_true rfl), (Nat.le_of_ble_eq_true rfl)⟩)) (fun hP => (rnU (As := []) (rest := [.int 0, .int xx]) (Cn := RX10) C (y10_room l g yb yr ynum yar ysk ylc ycr yfl) 0 gX11_reading_X0_room_u145X10 rfl rfl (by decide +kernel) ⟨(Nat.le_of_ble_eq_true rfl), (Nat.le_of_ble_eq_true rfl)⟩ hP (k := 7) (ci := 10) rfl rfl rfl rfl hl.1 rfl (Nat.le_of_ble_eq_true rfl) dX11_reading_32 ⟨(Nat.le_of_ble_eq_true rfl), (Nat.le_of_ble_eq_true rfl)⟩)) yk hP) (spM (X := [(h0, .inr (11, [.ref pl, .ref sa, .ref ea, .ref oa, .ref tsa, .ref usa, .ref vea, .ref lka, .ref ra, .ref sha, .ref tra, .int lf, .int std, .int tkd, .int tck])), (pl, .inr (4, [.int gv, .int lim, .ref ca, .int cnt, .ref la])), (ca, .inl (g.2 3, 6, .inr (.inr (.inr (.inr fc))))), (ra, .inr (5, [.ref rt, .ref ro, .ref rx, .int rc])), (rt, .inl (g.2 0, 20, .inl frt)), (ro, .inl (g.2 0, 20, .inl fro)), (rx, .inl (g.2 0, 20, .inl frx)), (yb, .inr (ckI yk, [.int ynum, .int yar, .int ysk, .ref yr, .int ylc, .int ycr, .int yfl])), (yr, .inl (g.2 0, 10, .inl yrow))]) (pl := (cysW g l1 ++ cysW g l2)) [false, false, false, false, false, false, false, true, false] hP hD rfl) hA hS (fun r6 u5 H locs hw hP hD hS => ?_)
  replace hP : va_P g.1 vwCl ([(h0, .inr (11, [.ref pl, .ref sa, .ref ea, .ref oa, .ref tsa, .ref usa, .ref vea, .ref lka, .ref ra, .ref sha, .ref tra, .int lf, .int std, .int tkd, .int tck])), (pl, .inr (4, [.int gv, .int lim, .ref ca, .int cnt, .ref la])), (ca, .inl (g.2 3, 6, .inr (.inr (.inr (.inr fc))))), (ra, .inr (5, [.ref rt, .ref ro, .ref rx, .int rc])), (rt, .inl (g.2 0, 20, .inl frt)), (ro, .inl (g.2 0, 20, .inl fro)), (rx, .inl (g.2 0, 20, .inl frx)), (yb, .inr (ckI yk, [.int ynum, .int yar, .int ysk, .ref yr, .int ylc, .int ycr, .int yfl])), (yr, .inl (g.2 0, 10, .inl yrow))] ++ (cysW g l1 ++ cysW g l2)) H := hP
  replace hD : va_D A ([(h0, .inr (11, [.ref pl, .ref sa, .ref ea, .ref oa, .ref tsa, .ref usa, .ref vea, .ref lka, .ref ra, .ref sha, .ref tra, .int lf, .int std, .int tkd, .int tck])), (pl, .inr (4, [.int gv, .int lim, .ref ca, .int cnt, .ref la])), (ca, .inl (g.2 3, 6, .inr (.inr (.inr (.inr fc))))), (ra, .inr (5, [.ref rt, .ref ro, .ref rx, .int rc])), (rt, .inl (g.2 0, 20, .inl frt)), (ro, .inl (g.2 0, 20, .inl fro)), (rx, .inl (g.2 0, 20, .inl frx)), (yb, .inr (ckI yk, [.int ynum, .int yar, .int ysk, .ref yr, .int ylc, .int ycr, .int yfl])), (yr, .inl (g.2 0, 10, .inl yrow))] ++ (cysW g l1 ++ cysW g l2)) := hD
  refine nx_i (v := (yar * ysk)) hw ?_
  refine pureIS (As := [.int xx, .int 0, .int (yar * ysk)]) (rest := []) F (c_within l xx 0 (yar * ysk)) 3 gX11_reading_X11_within rfl (by decide +kernel) rfl rfl ⟨(Nat.le_of_ble_eq_true rfl), (Nat.le_of_ble_eq_true rfl)⟩ (Nat.le_of_ble_eq_true rfl) (Nat.le_of_ble_eq_true rfl) rfl hl.1 rfl (Nat.le_of_ble_eq_true rfl) dX11_reading_35 ?_
  refine lv_if_ne (tgt := 44) hx hb dX11_reading_38 (by decide) (fun c7 => ?_) (fun c7 => ?_)
  · refine lv_aload_n hx hb dX11_reading_44 rfl (lv_at hl 1 rfl) ?_
    refine va_get (D := g.1) (ci := 11) (v := .ref ra) (C := RX11) (T := TX11) (N := 15) hx hb hts hc_X11_reading_X11 hown hK hP 0 rfl rfl 8 (by decide) (hts (.fieldLink RX11 55 "OilPush" "readings" "LOilPush$Readings;") (List.mem_of_getElem? (i := 2) rfl)) (fun _ h => h) rfl dX11_reading_45 ?_
    refine lv_iload_n hx hb dX11_reading_48 rfl (lv_at hl 2 rfl) ?_
    refine lv_iload_n hx hb dX11_reading_49 rfl (lv_at hl 3 rfl) ?_
    refine lv_iload_n hx hb dX11_reading_50 rfl (lv_at hl 4 rfl) ?_
    refine kI (rnV (As := [.int tt, .int cy, .int xx]) (rest := []) (Cn := RX5) C (r_add l g ra rt ro rx rc frt fro frx tt cy xx hTB (within_200 c4)) 3 gX11_reading_X5_add rfl (by decide +kernel) ⟨(Nat.le_of_ble_eq_true rfl), (Nat.le_of_ble_eq_true rfl)⟩ hP (k := 3) (ci := 5) rfl rfl rfl rfl hl.1 rfl (Nat.le_of_ble_eq_true rfl) dX11_reading_51 ⟨(Nat.le_of_ble_eq_true rfl), (Nat.le_of_ble_eq_true rfl)⟩) (spM (X := [(h0, .inr (11, [.ref pl, .ref sa, .ref ea, .ref oa, .ref tsa, .ref usa, .ref vea, .ref lka, .ref ra, .ref sha, .ref tra, .int lf, .int std, .int tkd, .int tck])), (pl, .inr (4, [.int gv, .int lim, .ref ca, .int cnt, .ref la])), (ca, .inl (g.2 3, 6, .inr (.inr (.inr (.inr fc))))), (ra, .inr (5, [.ref rt, .ref ro, .ref rx, .int rc])), (rt, .inl (g.2 0, 20, .inl frt)), (ro, .inl (g.2 0, 20, .inl fro)), (rx, .inl (g.2 0, 20, .inl frx)), (yb, .inr (ckI yk, [.int ynum, .int yar, .int ysk, .ref yr, .int ylc, .int ycr, .int yfl])), (yr, .inl (g.2 0, 10, .inl yrow))]) (pl := (cysW g l1 ++ cysW g l2)) [false, false, false, true, true, true, true, false, false] hP hD rfl) hA hS (fun r8 u9 H locs hw hP hD hS => ?_)
    obtain ⟨x10, x11, x12, x13⟩ := u9
    obtain ⟨f14, f15, f16⟩ := hw
    replace hP : va_P g.1 vwCl ([(h0, .inr (11, [.ref pl, .ref sa, .ref ea, .ref oa, .ref tsa, .ref usa, .ref vea, .ref lka, .ref ra, .ref sha, .ref tra, .int lf, .int std, .int tkd, .int tck])), (pl, .inr (4, [.int gv, .int lim, .ref ca, .int cnt, .ref la])), (ca, .inl (g.2 3, 6, .inr (.inr (.inr (.inr fc))))), (ra, .inr (5, [.ref rt, .ref ro, .ref rx, .int x10])), (rt, .inl (g.2 0, 20, .inl x11)), (ro, .inl (g.2 0, 20, .inl x12)), (rx, .inl (g.2 0, 20, .inl x13)), (yb, .inr (ckI yk, [.int ynum, .int yar, .int ysk, .ref yr, .int ylc, .int ycr, .int yfl])), (yr, .inl (g.2 0, 10, .inl yrow))] ++ (cysW g l1 ++ cysW g l2)) H := hP
    replace hD : va_D A ([(h0, .inr (11, [.ref pl, .ref sa, .ref ea, .ref oa, .ref tsa, .ref usa, .ref vea, .ref lka, .ref ra, .ref sha, .ref tra, .int lf, .int std, .int tkd, .int tck])), (pl, .inr (4, [.int gv, .int lim, .ref ca, .int cnt, .ref la])), (ca, .inl (g.2 3, 6, .inr (.inr (.inr (.inr fc))))), (ra, .inr (5, [.ref rt, .ref ro, .ref rx, .int x10])), (rt, .inl (g.2 0, 20, .inl x11)), (ro, .inl (g.2 0, 20, .inl x12)), (rx, .inl (g.2 0, 20, .inl x13)), (yb, .inr (ckI yk, [.int ynum, .int yar, .int ysk, .ref yr, .int ylc, .int ycr, .int yfl])), (yr, .inl (g.2 0, 10, .inl yrow))] ++ (cysW g l1 ++ cysW g l2)) := hD
    replace f14 : r8 = 0 ∨ r8 = 1 := f14
    replace f15 : TB x11 := f15
    replace f16 : RADD rc r8 x10 := f16
    refine lv_if_eq (tgt := 67) hx hb dX11_reading_54 (by decide) (fun c17 => ?_) (fun c17 => ?_)
    · refine lv_bipush (v := -4) hx hb dX11_reading_67 (by decide) ?_
      replace hP : va_P g.1 vwCl ([(h0, .inr (11, [.ref pl, .ref sa, .ref ea, .ref oa, .ref tsa, .ref usa, .ref vea, .ref lka, .ref ra, .ref sha, .ref tra, .int lf, .int std, .int tkd, .int tck])), (pl, .inr (4, [.int gv, .int lim, .ref ca, .int cnt, .ref la])), (ca, .inl (g.2 3, 6, .inr (.inr (.inr (.inr fc))))), (ra, .inr (5, [.ref rt, .ref ro, .ref rx, .int x10])), (rt, .inl (g.2 0, 20, .inl x11)), (ro, .inl (g.2 0, 20, .inl x12)), (rx, .inl (g.2 0, 20, .inl x13))] ++ cysW g (l1 ++ (yb, yr, yk, ynum, yar, ysk, ylc, ycr, yfl, yrow) :: l2)) H := cys_joinP (X := [(h0, .inr (11, [.ref pl, .ref sa, .ref ea, .ref oa, .ref tsa, .ref usa, .ref vea, .ref lka, .ref ra, .ref sha, .ref tra, .int lf, .int std, .int tkd, .int tck])), (pl, .inr (4, [.int gv, .int lim, .ref ca, .int cnt, .ref la])), (ca, .inl (g.2 3, 6, .inr (.inr (.inr (.inr fc))))), (ra, .inr (5, [.ref rt, .ref ro, .ref rx, .int x10])), (rt, .inl (g.2 0, 20, .inl x11)), (ro, .inl (g.2 0, 20, .inl x12)), (rx, .inl (g.2 0, 20, .inl x13))]) (y := (yb, yr, yk, ynum, yar, ysk, ylc, ycr, yfl, yrow)) (hP.part [0, 1, 2, 3, 4, 5, 6, 7, 8] rfl)
      replace hD : va_D A ([(h0, .inr (11, [.ref pl, .ref sa, .ref ea, .ref oa, .ref tsa, .ref usa, .ref vea, .ref lka, .ref ra, .ref sha, .ref tra, .int lf, .int std, .int tkd, .int tck])), (pl, .inr (4, [.int gv, .int lim, .ref ca, .int cnt, .ref la])), (ca, .inl (g.2 3, 6, .inr (.inr (.inr (.inr fc))))), (ra, .inr (5, [.ref rt, .ref ro, .ref rx, .int x10])), (rt, .inl (g.2 0, 20, .inl x11)), (ro, .inl (g.2 0, 20, .inl x12)), (rx, .inl (g.2 0, 20, .inl x13))] ++ cysW g (l1 ++ (yb, yr, yk, ynum, yar, ysk, ylc, ycr, yfl, yrow) :: l2)) := cys_joinD (X := [(h0, .inr (11, [.ref pl, .ref sa, .ref ea, .ref oa, .ref tsa, .ref usa, .ref vea, .ref lka, .ref ra, .ref sha, .ref tra, .int lf, .int std, .int tkd, .int tck])), (pl, .inr (4, [.int gv, .int lim, .ref ca, .int cnt, .ref la])), (ca, .inl (g.2 3, 6, .inr (.inr (.inr (.inr fc))))), (ra, .inr (5, [.ref rt, .ref ro, .ref rx, .int x10])), (rt, .inl (g.2 0, 20, .inl x11)), (ro, .inl (g.2 0, 20, .inl x12)), (rx, .inl (g.2 0, 20, .inl x13))]) (y := (yb, yr, yk, ynum, yar, ysk, ylc, ycr, yfl, yrow)) (hD.part [0, 1, 2, 3, 4, 5, 6, 7, 8] rfl rfl)
      replace hP := zk_csP hcse.symm hP; replace hD := zk_csD hcse.symm hD
      exact retI C hS (x10, x11, x12, x13) ⟨f15, (by simp only [sr_r, if_pos hcs, if_pos hTB, if_pos f3, if_neg (pa_some f3), if_neg c4, if_neg c7, if_pos f14, if_pos f15, if_pos f16, if_neg (radd_f f16 c17).1, (radd_f f16 c17).2, if_pos c17, (show fF yA cs cy.toNatClampNeg = yar from fF_cy yA hcs hcse hce), (show fF yS cs cy.toNatClampNeg = ysk from fF_cy yS hcs hcse hce)]), (by simp only [sr_n, if_pos hcs, if_pos hTB, if_pos f3, if_neg (pa_some f3), if_neg c4, if_neg c7, if_pos f14, if_pos f15, if_pos f16, if_neg (radd_f f16 c17).1, (radd_f f16 c17).2, if_pos c17, (show fF yA cs cy.toNatClampNeg = yar from fF_cy yA hcs hcse hce), (show fF yS cs cy.toNatClampNeg = ysk from fF_cy yS hcs hcse hce)])⟩ hP hD (Nat.le_of_ble_eq_true rfl) (Nat.le_of_ble_eq_true rfl) dX11_reading_69
    refine lv_aload_n hx hb dX11_reading_57 rfl (lv_at hl 1 rfl) ?_
    refine va_get (D := g.1) (ci := 11) (v := .ref ra) (C := RX11) (T := TX11) (N := 15) hx hb hts hc_X11_reading_X11 hown hK hP 0 rfl rfl 8 (by decide) (hts (.fieldLink RX11 55 "OilPush" "readings" "LOilPush$Readings;") (List.mem_of_getElem? (i := 2) rfl)) (fun _ h => h) rfl dX11_reading_58 ?_
    refine va_get (D := g.1) (ci := 5) (v := .int x10) (C := RX5) (T := TX5) (N := 4) hx hb hts hc_X11_reading_X5 hown hK hP 3 rfl rfl 3 (by decide) (hts (.fieldLink RX11 256 "OilPush$Readings" "count" "I") (List.mem_of_getElem? (i := 3) rfl)) (fun _ h => h) rfl dX11_reading_61 ?_
    refine lv_goto (tgt := 69) hx hb dX11_reading_64 (by decide) ?_
    replace hP : va_P g.1 vwCl ([(h0, .inr (11, [.ref pl, .ref sa, .ref ea, .ref oa, .ref tsa, .ref usa, .ref vea, .ref lka, .ref ra, .ref sha, .ref tra, .int lf, .int std, .int tkd, .int tck])), (pl, .inr (4, [.int gv, .int lim, .ref ca, .int cnt, .ref la])), (ca, .inl (g.2 3, 6, .inr (.inr (.inr (.inr fc))))), (ra, .inr (5, [.ref rt, .ref ro, .ref rx, .int x10])), (rt, .inl (g.2 0, 20, .inl x11)), (ro, .inl (g.2 0, 20, .inl x12)), (rx, .inl (g.2 0, 20, .inl x13))] ++ cysW g (l1 ++ (yb, yr, yk, ynum, yar, ysk, ylc, ycr, yfl, yrow) :: l2)) H := cys_joinP (X := [(h0, .inr (11, [.ref pl, .ref sa, .ref ea, .ref oa, .ref tsa, .ref usa, .ref vea, .ref lka, .ref ra, .ref sha, .ref tra, .int lf, .int std, .int tkd, .int tck])), (pl, .inr (4, [.int gv, .int lim, .ref ca, .int cnt, .ref la])), (ca, .inl (g.2 3, 6, .inr (.inr (.inr (.inr fc))))), (ra, .inr (5, [.ref rt, .ref ro, .ref rx, .int x10])), (rt, .inl (g.2 0, 20, .inl x11)), (ro, .inl (g.2 0, 20, .inl x12)), (rx, .inl (g.2 0, 20, .inl x13))]) (y := (yb, yr, yk, ynum, yar, ysk, ylc, ycr, yfl, yrow)) (hP.part [0, 1, 2, 3, 4, 5, 6, 7, 8] rfl)
    replace hD : va_D A ([(h0, .inr (11, [.ref pl, .ref sa, .ref ea, .ref oa, .ref tsa, .ref usa, .ref vea, .ref lka, .ref ra, .ref sha, .ref tra, .int lf, .int std, .int tkd, .int tck])), (pl, .inr (4, [.int gv, .int lim, .ref ca, .int cnt, .ref la])), (ca, .inl (g.2 3, 6, .inr (.inr (.inr (.inr fc))))), (ra, .inr (5, [.ref rt, .ref ro, .ref rx, .int x10])), (rt, .inl (g.2 0, 20, .inl x11)), (ro, .inl (g.2 0, 20, .inl x12)), (rx, .inl (g.2 0, 20, .inl x13))] ++ cysW g (l1 ++ (yb, yr, yk, ynum, yar, ysk, ylc, ycr, yfl, yrow) :: l2)) := cys_joinD (X := [(h0, .inr (11, [.ref pl, .ref sa, .ref ea, .ref oa, .ref tsa, .ref usa, .ref vea, .ref lka, .ref ra, .ref sha, .ref tra, .int lf, .int std, .int tkd, .int tck])), (pl, .inr (4, [.int gv, .int lim, .ref ca, .int cnt, .ref la])), (ca, .inl (g.2 3, 6, .inr (.inr (.inr (.inr fc))))), (ra, .inr (5, [.ref rt, .ref ro, .ref rx, .int x10])), (rt, .inl (g.2 0, 20, .inl x11)), (ro, .inl (g.2 0, 20, .inl x12)), (rx, .inl (g.2 0, 20, .inl x13))]) (y := (yb, yr, yk, ynum, yar, ysk, ylc, ycr, yfl, yrow)) (hD.part [0, 1, 2, 3, 4, 5, 6, 7, 8] rfl rfl)
    replace hP := zk_csP hcse.symm hP; replace hD := zk_csD hcse.symm hD
    exact retI C hS (x10, x11, x12, x13) ⟨f15, (by simp only [sr_r, if_pos hcs, if_pos hTB, if_pos f3, if_neg (pa_some f3), if_neg c4, if_neg c7, if_pos f14, if_pos f15, if_pos f16, if_pos (radd_t f16 c17).1, (radd_t f16 c17).2, if_neg c17, (show fF yA cs cy.toNatClampNeg = yar from fF_cy yA hcs hcse hce), (show fF yS cs cy.toNatClampNeg = ysk from fF_cy yS hcs hcse hce)]), (by simp only [sr_n, if_pos hcs, if_pos hTB, if_pos f3, if_neg (pa_some f3), if_neg c4, if_neg c7, if_pos f14, if_pos f15, if_pos f16, if_pos (radd_t f16 c17).1, (radd_t f16 c17).2, if_neg c17, (show fF yA cs cy.toNatClampNeg = yar from fF_cy yA hcs hcse hce), (show fF yS cs cy.toNatClampNeg = ysk from fF_cy yS hcs hcse hce)])⟩ hP hD (Nat.le_of_ble_eq_true rfl) (Nat.le_of_ble_eq_true rfl) dX11_reading_69
  refine lv_bipush (v := -2) hx hb dX11_reading_41 (by decide) ?_
  replace hP : va_P g.1 vwCl ([(h0, .inr (11, [.ref pl, .ref sa, .ref ea, .ref oa, .ref tsa, .ref usa, .ref vea, .ref lka, .ref ra, .ref sha, .ref tra, .int lf, .int std, .int tkd, .int tck])), (pl, .inr (4, [.int gv, .int lim, .ref ca, .int cnt, .ref la])), (ca, .inl (g.2 3, 6, .inr (.inr (.inr (.inr fc))))), (ra, .inr (5, [.ref rt, .ref ro, .ref rx, .int rc])), (rt, .inl (g.2 0, 20, .inl frt)), (ro, .inl (g.2 0, 20, .inl fro)), (rx, .inl (g.2 0, 20, .inl frx))] ++ cysW g (l1 ++ (yb, yr, yk, ynum, yar, ysk, ylc, ycr, yfl, yrow) :: l2)) H := cys_joinP (X := [(h0, .inr (11, [.ref pl, .ref sa, .ref ea, .ref oa, .ref tsa, .ref usa, .ref vea, .ref lka, .ref ra, .ref sha, .ref tra, .int lf, .int std, .int tkd, .int tck])), (pl, .inr (4, [.int gv, .int lim, .ref ca, .int cnt, .ref la])), (ca, .inl (g.2 3, 6, .inr (.inr (.inr (.inr fc))))), (ra, .inr (5, [.ref rt, .ref ro, .ref rx, .int rc])), (rt, .inl (g.2 0, 20, .inl frt)), (ro, .inl (g.2 0, 20, .inl fro)), (rx, .inl (g.2 0, 20, .inl frx))]) (y := (yb, yr, yk, ynum, yar, ysk, ylc, ycr, yfl, yrow)) (hP.part [0, 1, 2, 3, 4, 5, 6, 7, 8] rfl)
  replace hD : va_D A ([(h0, .inr (11, [.ref pl, .ref sa, .ref ea, .ref oa, .ref tsa, .ref usa, .ref vea, .ref lka, .ref ra, .ref sha, .ref tra, .int lf, .int std, .int tkd, .int tck])), (pl, .inr (4, [.int gv, .int lim, .ref ca, .int cnt, .ref la])), (ca, .inl (g.2 3, 6, .inr (.inr (.inr (.inr fc))))), (ra, .inr (5, [.ref rt, .ref ro, .ref rx, .int rc])), (rt, .inl (g.2 0, 20, .inl frt)), (ro, .inl (g.2 0, 20, .inl fro)), (rx, .inl (g.2 0, 20, .inl frx))] ++ cysW g (l1 ++ (yb, yr, yk, ynum, yar, ysk, ylc, ycr, yfl, yrow) :: l2)) := cys_joinD (X := [(h0, .inr (11, [.ref pl, .ref sa, .ref ea, .ref oa, .ref tsa, .ref usa, .ref vea, .ref lka, .ref ra, .ref sha, .ref tra, .int lf, .int std, .int tkd, .int tck])), (pl, .inr (4, [.int gv, .int lim, .ref ca, .int cnt, .ref la])), (ca, .inl (g.2 3, 6, .inr (.inr (.inr (.inr fc))))), (ra, .inr (5, [.ref rt, .ref ro, .ref rx, .int rc])), (rt, .inl (g.2 0, 20, .inl frt)), (ro, .inl (g.2 0, 20, .inl fro)), (rx, .inl (g.2 0, 20, .inl frx))]) (y := (yb, yr, yk, ynum, yar, ysk, ylc, ycr, yfl, yrow)) (hD.part [0, 1, 2, 3, 4, 5, 6, 7, 8] rfl rfl)
  replace hP := zk_csP hcse.symm hP; replace hD := zk_csD hcse.symm hD
  exact retI C hS (rc, frt, fro, frx) ⟨hTB, (by simp only [sr_r, if_pos hcs, if_pos hTB, if_pos f3, if_neg (pa_some f3), if_neg c4, if_pos c7, (show fF yA cs cy.toNatClampNeg = yar from fF_cy yA hcs hcse hce), (show fF yS cs cy.toNatClampNeg = ysk from fF_cy yS hcs hcse hce)]), (by simp only [sr_n, if_pos hcs, if_pos hTB, if_pos f3, if_neg (pa_some f3), if_neg c4, if_pos c7, (show fF yA cs cy.toNatClampNeg = yar from fF_cy yA hcs hcse hce), (show fF yS cs cy.toNatClampNeg = ysk from fF_cy yS hcs hcse hce)])⟩ hP hD (Nat.le_of_ble_eq_true rfl) (Nat.le_of_ble_eq_true rfl) dX11_reading_43
theorem hc_X11_start_X11 : ∀ w ∈ wsX110, w ∈ wsX11_start := fun w h => List.mem_cons_of_mem _ (List.mem_append_left _ (List.mem_append_left _ (List.mem_append_right _ h)))
set_option maxRecDepth 100000 in
set_option maxHeartbeats 4000000 in
theorem x_start (l : Launch) (g : Gt) (h0 : Nat) (sha : Nat) (tra : Nat) (lf : Int32) (std : Int32) (tkd : Int32) (tck : Int32) (sa : Nat) (ea : Nat) (oa : Nat) (tsa : Nat) (usa : Nat) (vea : Nat) (lka : Nat) (ra : Nat) (pl : Nat) (so : Nat) (sv : Nat) (sb : Nat) (ss : Nat) (wt : Int32) (fo : Nat → Int32) (fv : Nat → Int32) (fb : Nat → Int32) (cap : Int32) (fst : Int32) (stf : Int32) (sol : Int32) (tsa : Nat) (tso : Nat) (tsv : Nat) (tsb : Nat) (tss : Nat) (twt : Int32) (tfo : Nat → Int32) (tfv : Nat → Int32) (tfb : Nat → Int32) (tcap : Int32) (tfst : Int32) (tstf : Int32) (tsol : Int32)  : Ctr l g yX11_start wsX11_start ({ frames := 2, cells := 0, slots := 0, locals := 44 } : Room) [.ref h0] [(h0, .inr (11, [.ref pl, .ref sa, .ref ea, .ref oa, .ref tsa, .ref usa, .ref vea, .ref lka, .ref ra, .ref sha, .ref tra, .int lf, .int std, .int tkd, .int tck])), (sa, .inr (7, [.ref so, .ref sv, .ref sb, .ref ss, .int wt])), (so, .inl (g.2 0, 6, .inl fo)), (sv, .inl (g.2 0, 6, .inl fv)), (sb, .inl (g.2 0, 6, .inl fb)), (ss, .inr (8, [.int cap, .int fst, .int stf, .int sol])), (tsa, .inr (7, [.ref tso, .ref tsv, .ref tsb, .ref tss, .int twt])), (tso, .inl (g.2 0, 6, .inl tfo)), (tsv, .inl (g.2 0, 6, .inl tfv)), (tsb, .inl (g.2 0, 6, .inl tfb)), (tss, .inr (8, [.int tcap, .int tfst, .int tstf, .int tsol]))] (fun A => QI g A (fun r (u : Int32 × Int32 × Int32 × (Nat → Int32) × (Nat → Int32) × (Nat → Int32) × Int32 × Int32 × Int32 × Int32) => (r = 1) ∧ (u.2.1 = 0)) (fun (u : Int32 × Int32 × Int32 × (Nat → Int32) × (Nat → Int32) × (Nat → Int32) × Int32 × Int32 × Int32 × Int32) => [(h0, .inr (11, [.ref pl, .ref sa, .ref ea, .ref oa, .ref tsa, .ref usa, .ref vea, .ref lka, .ref ra, .ref sha, .ref tra, .int lf, .int u.1, .int tkd, .int u.2.1])), (sa, .inr (7, [.ref so, .ref sv, .ref sb, .ref ss, .int wt])), (so, .inl (g.2 0, 6, .inl fo)), (sv, .inl (g.2 0, 6, .inl fv)), (sb, .inl (g.2 0, 6, .inl fb)), (ss, .inr (8, [.int cap, .int fst, .int stf, .int sol])), (tsa, .inr (7, [.ref tso, .ref tsv, .ref tsb, .ref tss, .int u.2.2.1])), (tso, .inl (g.2 0, 6, .inl u.2.2.2.1)), (tsv, .inl (g.2 0, 6, .inl u.2.2.2.2.1)), (tsb, .inl (g.2 0, 6, .inl u.2.2.2.2.2.1)), (tss, .inr (8, [.int u.2.2.2.2.2.2.1, .int u.2.2.2.2.2.2.2.1, .int u.2.2.2.2.2.2.2.2.1, .int u.2.2.2.2.2.2.2.2.2]))])) := by
  refine Ctr.of (cc := cX11_start) (maxL := 1) (ret := (some .int)) (by decide) rfl (Nat.le_of_ble_eq_true rfl) ?_
  intro p e s m below meth c A ls H C hP hD hA hS hl
  obtain ⟨hx, hb, hr, hts, hown, hlocks, hml, hin, hKN⟩ := id C
  have hK := hKN.1
  have hN := hKN.2
  have F : CallFix p m c cX11_start 1 s _ wsX11_start yX11_start.cls := ⟨hx, hb, hml, hown, hts⟩
  have hl : lv_has ls 1 [(0, .ref h0)] := hl
  refine lv_aload_n hx hb dX11_start_0 rfl (lv_at hl 0 rfl) ?_
  refine va_get (D := g.1) (ci := 11) (v := .ref tsa) (C := RX11) (T := TX11) (N := 15) hx hb hts hc_X11_start_X11 hown hK hP 0 rfl rfl 4 (by decide) (hts (.fieldLink RX11 39 "OilPush" "atStart" "LOilPush$State;") (List.mem_of_getElem? (i := 1) rfl)) (fun _ h => h) rfl dX11_start_1 ?_
  refine lv_aload_n hx hb dX11_start_4 rfl (lv_at hl 0 rfl) ?_
  refine va_get (D := g.1) (ci := 11) (v := .ref sa) (C := RX11) (T := TX11) (N := 15) hx hb hts hc_X11_start_X11 hown hK hP 0 rfl rfl 1 (by decide) (hts (.fieldLink RX11 21 "OilPush" "now" "LOilPush$State;") (List.mem_of_getElem? (i := 2) rfl)) (fun _ h => h) rfl dX11_start_5 ?_
  refine kV (rnV (As := [.ref sa]) (rest := []) (Cn := RX7) C (t_become l g tsa tso tsv tsb tss twt tfo tfv tfb tcap tfst tstf tsol sa so sv sb ss wt fo fv fb cap fst stf sol) 1 gX11_start_X7_become rfl (by decide +kernel) ⟨(Nat.le_of_ble_eq_true rfl), (Nat.le_of_ble_eq_true rfl)⟩ hP (k := 6) (ci := 7) rfl rfl rfl rfl hl.1 rfl (Nat.le_of_ble_eq_true rfl) dX11_start_8 ⟨(Nat.le_of_ble_eq_true rfl), (Nat.le_of_ble_eq_true rfl)⟩) (spA (wr := [(h0, .inr (11, [.ref pl, .ref sa, .ref ea, .ref oa, .ref tsa, .ref usa, .ref vea, .ref lka, .ref ra, .ref sha, .ref tra, .int lf, .int std, .int tkd, .int tck]))]) hP hD [6, 7, 8, 9, 10, 1, 2, 3, 4, 5] [0] rfl rfl rfl rfl (by decide)) hA hS (fun u2 H locs hw hP hD hS => ?_)
  obtain ⟨x3, x4, x5, x6, x7, x8, x9, x10⟩ := u2
  replace hP : va_P g.1 vwCl [(h0, .inr (11, [.ref pl, .ref sa, .ref ea, .ref oa, .ref tsa, .ref usa, .ref vea, .ref lka, .ref ra, .ref sha, .ref tra, .int lf, .int std, .int tkd, .int tck])), (tsa, .inr (7, [.ref tso, .ref tsv, .ref tsb, .ref tss, .int x3])), (tso, .inl (g.2 0, 6, .inl x4)), (tsv, .inl (g.2 0, 6, .inl x5)), (tsb, .inl (g.2 0, 6, .inl x6)), (tss, .inr (8, [.int x7, .int x8, .int x9, .int x10])), (sa, .inr (7, [.ref so, .ref sv, .ref sb, .ref ss, .int wt])), (so, .inl (g.2 0, 6, .inl fo)), (sv, .inl (g.2 0, 6, .inl fv)), (sb, .inl (g.2 0, 6, .inl fb)), (ss, .inr (8, [.int cap, .int fst, .int stf, .int sol]))] H := hP
  replace hD : va_D A [(h0, .inr (11, [.ref pl, .ref sa, .ref ea, .ref oa, .ref tsa, .ref usa, .ref vea, .ref lka, .ref ra, .ref sha, .ref tra, .int lf, .int std, .int tkd, .int tck])), (tsa, .inr (7, [.ref tso, .ref tsv, .ref tsb, .ref tss, .int x3])), (tso, .inl (g.2 0, 6, .inl x4)), (tsv, .inl (g.2 0, 6, .inl x5)), (tsb, .inl (g.2 0, 6, .inl x6)), (tss, .inr (8, [.int x7, .int x8, .int x9, .int x10])), (sa, .inr (7, [.ref so, .ref sv, .ref sb, .ref ss, .int wt])), (so, .inl (g.2 0, 6, .inl fo)), (sv, .inl (g.2 0, 6, .inl fv)), (sb, .inl (g.2 0, 6, .inl fb)), (ss, .inr (8, [.int cap, .int fst, .int stf, .int sol]))] := hD
  refine lv_aload_n hx hb dX11_start_11 rfl (lv_at hl 0 rfl) ?_
  refine lv_iconst (v := 1) hx hb dX11_start_12 (by decide) ?_
  refine va_put (D := g.1) (ci := 11) (v := .int 1) (ty := .boolean) (C := RX11) (T := TX11) (N := 15) hx hb hts hc_X11_start_X11 tyX11 tyX11_ok nmX11 hown hK hP hD hS 0 rfl rfl 12 (by decide) (hts (.fieldLink RX11 252 "OilPush" "started" "Z") (List.mem_of_getElem? (i := 3) rfl)) (fun _ h => h) rfl (by decide +kernel) rfl rfl (Nat.le_of_ble_eq_true rfl) dX11_start_13 (fun H locs hP hD hS => ?_)
  replace hP : va_P g.1 vwCl [(h0, .inr (11, [.ref pl, .ref sa, .ref ea, .ref oa, .ref tsa, .ref usa, .ref vea, .ref lka, .ref ra, .ref sha, .ref tra, .int lf, .int 1, .int tkd, .int tck])), (tsa, .inr (7, [.ref tso, .ref tsv, .ref tsb, .ref tss, .int x3])), (tso, .inl (g.2 0, 6, .inl x4)), (tsv, .inl (g.2 0, 6, .inl x5)), (tsb, .inl (g.2 0, 6, .inl x6)), (tss, .inr (8, [.int x7, .int x8, .int x9, .int x10])), (sa, .inr (7, [.ref so, .ref sv, .ref sb, .ref ss, .int wt])), (so, .inl (g.2 0, 6, .inl fo)), (sv, .inl (g.2 0, 6, .inl fv)), (sb, .inl (g.2 0, 6, .inl fb)), (ss, .inr (8, [.int cap, .int fst, .int stf, .int sol]))] H := hP
  replace hD : va_D A [(h0, .inr (11, [.ref pl, .ref sa, .ref ea, .ref oa, .ref tsa, .ref usa, .ref vea, .ref lka, .ref ra, .ref sha, .ref tra, .int lf, .int 1, .int tkd, .int tck])), (tsa, .inr (7, [.ref tso, .ref tsv, .ref tsb, .ref tss, .int x3])), (tso, .inl (g.2 0, 6, .inl x4)), (tsv, .inl (g.2 0, 6, .inl x5)), (tsb, .inl (g.2 0, 6, .inl x6)), (tss, .inr (8, [.int x7, .int x8, .int x9, .int x10])), (sa, .inr (7, [.ref so, .ref sv, .ref sb, .ref ss, .int wt])), (so, .inl (g.2 0, 6, .inl fo)), (sv, .inl (g.2 0, 6, .inl fv)), (sb, .inl (g.2 0, 6, .inl fb)), (ss, .inr (8, [.int cap, .int fst, .int stf, .int sol]))] := hD
  refine lv_aload_n hx hb dX11_start_16 rfl (lv_at hl 0 rfl) ?_
  refine lv_iconst (v := 0) hx hb dX11_start_17 (by decide) ?_
  refine va_put (D := g.1) (ci := 11) (v := .int 0) (ty := .int) (C := RX11) (T := TX11) (N := 15) hx hb hts hc_X11_start_X11 tyX11 tyX11_ok nmX11 hown hK hP hD hS 0 rfl rfl 14 (by decide) (hts (.fieldLink RX11 197 "OilPush" "ticks" "I") (List.mem_of_getElem? (i := 4) rfl)) (fun _ h => h) rfl (by decide +kernel) rfl rfl (Nat.le_of_ble_eq_true rfl) dX11_start_18 (fun H locs hP hD hS => ?_)
  replace hP : va_P g.1 vwCl [(h0, .inr (11, [.ref pl, .ref sa, .ref ea, .ref oa, .ref tsa, .ref usa, .ref vea, .ref lka, .ref ra, .ref sha, .ref tra, .int lf, .int 1, .int tkd, .int 0])), (tsa, .inr (7, [.ref tso, .ref tsv, .ref tsb, .ref tss, .int x3])), (tso, .inl (g.2 0, 6, .inl x4)), (tsv, .inl (g.2 0, 6, .inl x5)), (tsb, .inl (g.2 0, 6, .inl x6)), (tss, .inr (8, [.int x7, .int x8, .int x9, .int x10])), (sa, .inr (7, [.ref so, .ref sv, .ref sb, .ref ss, .int wt])), (so, .inl (g.2 0, 6, .inl fo)), (sv, .inl (g.2 0, 6, .inl fv)), (sb, .inl (g.2 0, 6, .inl fb)), (ss, .inr (8, [.int cap, .int fst, .int stf, .int sol]))] H := hP
  replace hD : va_D A [(h0, .inr (11, [.ref pl, .ref sa, .ref ea, .ref oa, .ref tsa, .ref usa, .ref vea, .ref lka, .ref ra, .ref sha, .ref tra, .int lf, .int 1, .int tkd, .int 0])), (tsa, .inr (7, [.ref tso, .ref tsv, .ref tsb, .ref tss, .int x3])), (tso, .inl (g.2 0, 6, .inl x4)), (tsv, .inl (g.2 0, 6, .inl x5)), (tsb, .inl (g.2 0, 6, .inl x6)), (tss, .inr (8, [.int x7, .int x8, .int x9, .int x10])), (sa, .inr (7, [.ref so, .ref sv, .ref sb, .ref ss, .int wt])), (so, .inl (g.2 0, 6, .inl fo)), (sv, .inl (g.2 0, 6, .inl fv)), (sb, .inl (g.2 0, 6, .inl fb)), (ss, .inr (8, [.int cap, .int fst, .int stf, .int sol]))] := hD
  refine lv_iconst (v := 1) hx hb dX11_start_21 (by decide) ?_
  exact retI C hS (1, 0, x3, x4, x5, x6, x7, x8, x9, x10) ⟨rfl, rfl⟩ (hP.pick [0, 6, 7, 8, 9, 10, 1, 2, 3, 4, 5] rfl) (hD.sub [0, 6, 7, 8, 9, 10, 1, 2, 3, 4, 5] (by decide +kernel) rfl) (Nat.le_of_ble_eq_true rfl) (Nat.le_of_ble_eq_true rfl) dX11_start_22
theorem hc_X11_fill_X11 : ∀ w ∈ wsX110, w ∈ wsX11_fill := fun w h => List.mem_cons_of_mem _ (List.mem_append_left _ (List.mem_append_left _ (List.mem_append_left _ (List.mem_append_left _ (List.mem_append_left _ (List.mem_append_right _ h))))))
theorem hc_X11_fill_X7 : ∀ w ∈ wsX70, w ∈ wsX11_fill := fun w h => List.mem_cons_of_mem _ (List.mem_append_left _ (List.mem_append_left _ (List.mem_append_left _ (List.mem_append_left _ (List.mem_append_right _ h)))))
theorem hc_X4_howManyAt_X4 : ∀ w ∈ wsX40, w ∈ wsX4_howManyAt := fun w h => List.mem_cons_of_mem _ (List.mem_append_left _ (List.mem_append_left _ (List.mem_append_left _ (List.mem_append_left _ (List.mem_append_right _ h)))))
theorem hc_X4_howManyAt_X7 : ∀ w ∈ wsX70, w ∈ wsX4_howManyAt := fun w h => List.mem_cons_of_mem _ (List.mem_append_left _ (List.mem_append_left _ (List.mem_append_left _ (List.mem_append_right _ h))))
theorem hc_X11_told_X11 : ∀ w ∈ wsX110, w ∈ wsX11_told := fun w h => List.mem_cons_of_mem _ (List.mem_append_left _ (List.mem_append_left _ (List.mem_append_left _ (List.mem_append_left _ (List.mem_append_left _ (List.mem_append_left _ (List.mem_append_left _ (List.mem_append_right _ h))))))))
theorem hc_X11_told_X3 : ∀ w ∈ wsX30, w ∈ wsX11_told := fun w h => List.mem_cons_of_mem _ (List.mem_append_left _ (List.mem_append_left _ (List.mem_append_left _ (List.mem_append_left _ (List.mem_append_left _ (List.mem_append_right _ h))))))
theorem hc_X11_told_X4 : ∀ w ∈ wsX40, w ∈ wsX11_told := fun w h => List.mem_cons_of_mem _ (List.mem_append_left _ (List.mem_append_left _ (List.mem_append_left _ (List.mem_append_left _ (List.mem_append_left _ (List.mem_append_left _ (List.mem_append_right _ h)))))))
theorem hc_X11_told_X5 : ∀ w ∈ wsX50, w ∈ wsX11_told := fun w h => List.mem_cons_of_mem _ (List.mem_append_left _ (List.mem_append_left _ (List.mem_append_left _ (List.mem_append_left _ (List.mem_append_right _ h)))))
