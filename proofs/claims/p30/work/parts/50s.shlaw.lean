def KSH (H N L : Nat → Int32) (C : Nat → Nat → Int32) (a1 a2 a3 : Nat → Int32) : Prop := ∀ j : Nat, j < 4 → (H j = 0 ∧ ¬ 0 ≤ a1 j) ∨ (H j = 1 ∧ 0 ≤ a1 j ∧ N j = a1 j ∧ L j = a2 j ∧ ∀ x : Nat, (x : Int) < (a1 j).toInt → C j x = a3 (20 * j + x))
theorem kn_lt {k : Int32} (h : ¬ NS k) : k.toNatClampNeg < 4 ∧ ((k.toNatClampNeg : Nat) : Int) = k.toInt := by
  have h' : ¬ (k < 0 ∨ 4 ≤ k) := h
  rw [Int32.lt_iff_toInt_lt, Int32.le_iff_toInt_le, Int32.toInt_zero, show (4 : Int32).toInt = 4 from by decide] at h'
  have e := cl_of (r := k) (by omega)
  exact ⟨by omega, e⟩
theorem ksh_val {H N L a1 a2 a3 : Nat → Int32} {C : Nat → Nat → Int32} (K : KSH H N L C a1 a2 a3) {k : Int32} (h : ¬ NS k) : (H k.toNatClampNeg = 0 ∧ hasM a1 k.toNatClampNeg = 0) ∨ (H k.toNatClampNeg = 1 ∧ hasM a1 k.toNatClampNeg = 1 ∧ 0 ≤ a1 k.toNatClampNeg ∧ N k.toNatClampNeg = a1 k.toNatClampNeg ∧ L k.toNatClampNeg = a2 k.toNatClampNeg ∧ ∀ x : Nat, (x : Int) < (a1 k.toNatClampNeg).toInt → C k.toNatClampNeg x = a3 (20 * k.toNatClampNeg + x)) := by
  rcases K _ (kn_lt h).1 with ⟨h1, h2⟩ | ⟨h1, h2, h3, h4, h5⟩
  · exact Or.inl ⟨h1, has_0 h2⟩
  · exact Or.inr ⟨h1, by unfold hasM; rw [if_pos h2], h2, h3, h4, h5⟩
theorem ss_u_y {k lane n : Int32} {f : Nat → Int32} {x : Int32} (h : SOK k lane n) : ss_u k lane n f x = upd f k.toNatClampNeg x := by
  unfold ss_u; rw [if_neg h.1, if_neg h.2.1, if_neg h.2.2.1, if_neg h.2.2.2]
theorem ss_u_n {k lane n : Int32} {f : Nat → Int32} {x : Int32} (h : ¬ SOK k lane n) : ss_u k lane n f x = f := by
  unfold ss_u
  by_cases h1 : NS k
  · rw [if_pos h1]
  · rw [if_neg h1]
    by_cases h2 : r_c_within lane 0 2 = 0
    · rw [if_pos h2]
    · rw [if_neg h2]
      by_cases h3 : 20 < n
      · rw [if_pos h3]
      · rw [if_neg h3]
        by_cases h4 : n < 0
        · rw [if_pos h4]
        · exact absurd ⟨h1, h2, h3, h4⟩ h
theorem ksh_sheet {H N L H' N' L' a1 a2 a3 b1 b2 b3 : Nat → Int32} {C C' : Nat → Nat → Int32} {k lane n : Int32} (K : KSH H N L C a1 a2 a3) (hS : SZ a1) (e1 : H' = ss_u k lane n H 1) (e2 : L' = ss_u k lane n L lane) (e3 : N' = ss_u k lane n N n) (e4 : SSC k lane n C C') (f1 : b1 = ss_u k lane n a1 n) (f2 : b2 = ss_u k lane n a2 lane) (f3 : SSM k lane n a3 b3) : KSH H' N' L' C' b1 b2 b3 := by
  by_cases ok : SOK k lane n
  · rw [ss_u_y ok] at e1 e2 e3 f1 f2
    obtain ⟨c1, c2⟩ := e4.1 ok
    have c3 := f3.1 ok
    have hk := kn_lt ok.1
    have hn0 : 0 ≤ n := Int32.not_lt.mp ok.2.2.2
    have hn : n.toInt ≤ 20 := by
      have := ok.2.2.1
      rw [Int32.lt_iff_toInt_lt, show (20 : Int32).toInt = 20 from by decide] at this
      omega
    subst e1 e2 e3 f1 f2
    intro j hj
    by_cases e : j = k.toNatClampNeg
    · subst e
      rw [pk_us, pk_us, pk_us, pk_us, pk_us]
      refine Or.inr ⟨rfl, hn0, rfl, rfl, fun x hx => ?_⟩
      rw [c2 x (by omega), c3, if_pos (by omega)]
    · rw [pk_un e, pk_un e, pk_un e, pk_un e, pk_un e, c1 j e]
      have hs := hS j
      rcases K j hj with h | ⟨h1, h2, h3, h4, h5⟩
      · exact Or.inl h
      · refine Or.inr ⟨h1, h2, h3, h4, fun x hx => ?_⟩
        rw [h5 x hx, c3, if_neg (by omega)]
  · rw [ss_u_n ok] at e1 e2 e3 f1 f2
    have c1 := e4.2 ok
    have c3 := f3.2 ok
    subst e1 e2 e3 f1 f2 c1 c3
    exact K
theorem ksh_lose {H N L H' a1 a2 a3 b1 : Nat → Int32} {C : Nat → Nat → Int32} {k : Int32} (K : KSH H N L C a1 a2 a3) (e1 : H' = sl_h k H 0) (f1 : b1 = sl_h k a1 (-1)) : KSH H' N L C b1 a2 a3 := by
  unfold sl_h at e1 f1
  by_cases h : NS k
  · rw [if_pos h] at e1 f1; subst e1 f1; exact K
  · rw [if_neg h] at e1 f1; subst e1 f1
    intro j hj
    by_cases e : j = k.toNatClampNeg
    · subst e; rw [pk_us, pk_us]; exact Or.inl ⟨rfl, by decide⟩
    · rw [pk_un e, pk_un e]; exact K j hj
theorem wr_at {l ii v : Int32} {f : Nat → Int32} (h0 : 0 ≤ ii.toInt) (h1 : ii.toInt < 20) (x : Nat) : wr l f ii v x = if x = ii.toNatClampNeg then narL l v else f x := by
  have c1 : ¬ ii < 0 := by rw [Int32.lt_iff_toInt_lt, Int32.toInt_zero]; omega
  have c2 : ¬ Int32.ofNat 20 ≤ ii := by rw [Int32.le_iff_toInt_le, show (Int32.ofNat 20).toInt = 20 from by decide]; omega
  have s : ∀ w : Int32, r_c_set 20 f ii w x = if x = ii.toNatClampNeg then w else f x := by
    intro w
    unfold r_c_set
    rw [if_neg c1, if_neg c2]
    by_cases e : x = ii.toNatClampNeg
    · subst e; rw [pk_us, if_pos rfl]
    · rw [pk_un e, if_neg e]
  unfold wr narL
  (repeat' split) <;> first | exact s _ | (rw [s]; simp_all)
theorem ix_cl {k ii : Int32} (hk : ¬ NS k) (h0 : 0 ≤ ii.toInt) (h1 : ii.toInt < 20) : (20 * k + ii).toNatClampNeg = 20 * k.toNatClampNeg + ii.toNatClampNeg := by
  have e := kn_lt hk
  have e2 := cl_of h0
  have hv : vp_in k 4 := by rw [vp_in_iff]; omega
  have hm := mul20 hv (by omega)
  have ha : (20 * k + ii).toInt = 20 * k.toInt + ii.toInt := by rw [Int32.toInt_add, hm, Int.bmod_eq_of_le] <;> omega
  have e3 := cl_of (r := 20 * k + ii) (by omega)
  omega
theorem ksh_put {H N L a1 a2 a3 b3 : Nat → Int32} {C C' : Nat → Nat → Int32} {k ii v : Int32} (K : KSH H N L C a1 a2 a3) (hS : SZ a1) (e1 : C' = sp_c k (H k.toNatClampNeg) (L k.toNatClampNeg) (N k.toNatClampNeg) C ii v) (f1 : b3 = sp_m k (hasM a1 k.toNatClampNeg) (a2 k.toNatClampNeg) (a1 k.toNatClampNeg) a3 ii v) : KSH H N L C' a1 a2 b3 := by
  unfold sp_c at e1
  unfold sp_m at f1
  by_cases h : NS k
  · rw [if_pos h] at e1 f1; subst e1 f1; exact K
  · rw [if_neg h] at e1 f1
    rcases ksh_val K h with ⟨g1, g2⟩ | ⟨g1, g2, g3, g4, g5, g6⟩
    · rw [if_pos g1] at e1; rw [if_pos g2] at f1; subst e1 f1; exact K
    · rw [if_neg (by rw [g1]; decide), g4, g5] at e1
      rw [if_neg (by rw [g2]; decide)] at f1
      by_cases hd : HOLD (a1 k.toNatClampNeg) ii 1
      · rw [if_pos hd] at e1 f1
        have e20 : (1 : Int32).toInt = 1 := by decide
        have hs := hS k.toNatClampNeg
        have i0 := hd.1
        have i1 : ii.toInt < 20 := by have := hd.2.2; omega
        have ek := kn_lt h
        have ei := cl_of i0
        rw [ix_cl h i0 i1] at f1
        subst e1 f1
        intro j hj
        rcases K j hj with q | ⟨q1, q2, q3, q4, q5⟩
        · exact Or.inl q
        · refine Or.inr ⟨q1, q2, q3, q4, fun x hx => ?_⟩
          have hsj := hS j
          unfold upF
          by_cases e : j = k.toNatClampNeg
          · subst e
            rw [if_pos rfl, wr_at i0 i1]
            by_cases ex : x = ii.toNatClampNeg
            · subst ex; rw [if_pos rfl, pk_us]
            · rw [if_neg ex, pk_un (by omega)]; exact q5 x hx
          · rw [if_neg e, pk_un (by omega)]; exact q5 x hx
      · rw [if_neg hd] at e1 f1; subst e1 f1; exact K
theorem ksh_copy {H N L a1 a2 a3 b3 : Nat → Int32} {C C' : Nat → Nat → Int32} {k ii ot jj m : Int32} (K : KSH H N L C a1 a2 a3) (hS : SZ a1) (e1 : C' = sy_c k (H k.toNatClampNeg) (L k.toNatClampNeg) (N k.toNatClampNeg) ii ot (H ot.toNatClampNeg) (L ot.toNatClampNeg) (N ot.toNatClampNeg) jj m C) (f1 : CPM (YOK k (hasM a1 k.toNatClampNeg) (a2 k.toNatClampNeg) (a1 k.toNatClampNeg) ii ot (hasM a1 ot.toNatClampNeg) (a2 ot.toNatClampNeg) (a1 ot.toNatClampNeg) jj m) k ii ot jj m a3 b3) : KSH H N L C' a1 a2 b3 := by
  unfold sy_c at e1
  by_cases h : NS k
  · rw [if_pos h] at e1; have := f1.2 (fun e => e.1 h); subst e1 this; exact K
  · rw [if_neg h] at e1
    by_cases ho : NS ot
    · rw [if_pos ho] at e1; have := f1.2 (fun e => e.2.1 ho); subst e1 this; exact K
    · rw [if_neg ho] at e1
      rcases ksh_val K h with ⟨g1, g2⟩ | ⟨g1, g2, g3, g4, g5, g6⟩
      · rw [if_pos g1] at e1; have := f1.2 (fun e => e.2.2.1 g2); subst e1 this; exact K
      · rcases ksh_val K ho with ⟨o1, o2⟩ | ⟨o1, o2, o3, o4, o5, o6⟩
        · rw [if_neg (by rw [g1]; decide), if_pos o1] at e1; have := f1.2 (fun e => e.2.2.2.1 o2); subst e1 this; exact K
        · rw [if_neg (by rw [g1]; decide), if_neg (by rw [o1]; decide), g4, g5, o4, o5] at e1
          by_cases hl : a2 k.toNatClampNeg = a2 ot.toNatClampNeg
          · rw [if_pos hl] at e1
            by_cases hd : HOLD (a1 k.toNatClampNeg) ii m
            · rw [if_pos hd] at e1
              by_cases hd2 : HOLD (a1 ot.toNatClampNeg) jj m
              · rw [if_pos hd2] at e1
                have c3 := f1.1 ⟨h, ho, by rw [g2]; decide, by rw [o2]; decide, hl, hd, hd2⟩
                have ek := kn_lt h
                have eo := kn_lt ho
                have ei := cl_of hd.1
                have ej := cl_of hd2.1
                have em := cl_of hd.2.1
                have hs1 := hS k.toNatClampNeg
                have hs2 := hS ot.toNatClampNeg
                have b1 := hd.2.2
                have b2 := hd2.2.2
                subst e1
                intro j hj
                have hsj := hS j
                rcases K j hj with q | ⟨q1, q2, q3, q4, q5⟩
                · exact Or.inl q
                · refine Or.inr ⟨q1, q2, q3, q4, fun x hx => ?_⟩
                  unfold upF
                  rw [c3]
                  by_cases e : j = ot.toNatClampNeg
                  · subst e
                    rw [if_pos rfl]
                    by_cases hx2 : jj.toNatClampNeg ≤ x ∧ x < jj.toNatClampNeg + m.toNatClampNeg
                    · rw [pk_cpy_in hx2.1 hx2.2, if_pos (by omega), g6 _ (by omega)]
                      congr 1
                      omega
                    · rw [pk_cpy_out (by omega), if_neg (by omega)]; exact q5 x hx
                  · rw [if_neg e, if_neg (by omega)]; exact q5 x hx
              · rw [if_neg hd2] at e1; have := f1.2 (fun e => hd2 e.2.2.2.2.2.2); subst e1 this; exact K
            · rw [if_neg hd] at e1; have := f1.2 (fun e => hd e.2.2.2.2.2.1); subst e1 this; exact K
          · rw [if_neg hl] at e1; have := f1.2 (fun e => hl e.2.2.2.2.1); subst e1 this; exact K
theorem put_l {H N L a1 a2 a3 : Nat → Int32} {C : Nat → Nat → Int32} (K : KSH H N L C a1 a2 a3) {k ii : Int32} : sp_l k (H k.toNatClampNeg) (N k.toNatClampNeg) ii = sp_l k (hasM a1 k.toNatClampNeg) (a1 k.toNatClampNeg) ii := by
  unfold sp_l
  by_cases h : NS k
  · rw [if_pos h, if_pos h]
  · rcases ksh_val K h with ⟨g1, g2⟩ | ⟨g1, g2, g3, g4, -⟩
    · rw [if_pos g1, if_pos g2]
    · rw [g1, g2, g4]
theorem cell_l {H N L a1 a2 a3 : Nat → Int32} {C : Nat → Nat → Int32} (K : KSH H N L C a1 a2 a3) {k ii lane : Int32} : se_l k (H k.toNatClampNeg) (L k.toNatClampNeg) (N k.toNatClampNeg) ii lane = se_l k (hasM a1 k.toNatClampNeg) (a2 k.toNatClampNeg) (a1 k.toNatClampNeg) ii lane := by
  unfold se_l
  by_cases h : NS k
  · rw [if_pos h, if_pos h]
  · rw [if_neg h, if_neg h]
    rcases ksh_val K h with ⟨g1, g2⟩ | ⟨g1, g2, g3, g4, g5, g6⟩
    · rw [if_pos g1, if_pos g2]
    · rw [g1, g2, g4, g5]
theorem copy_l {H N L a1 a2 a3 : Nat → Int32} {C : Nat → Nat → Int32} (K : KSH H N L C a1 a2 a3) {k ii ot jj m : Int32} : sy_l k (H k.toNatClampNeg) (L k.toNatClampNeg) (N k.toNatClampNeg) ii ot (H ot.toNatClampNeg) (L ot.toNatClampNeg) (N ot.toNatClampNeg) jj m = sy_l k (hasM a1 k.toNatClampNeg) (a2 k.toNatClampNeg) (a1 k.toNatClampNeg) ii ot (hasM a1 ot.toNatClampNeg) (a2 ot.toNatClampNeg) (a1 ot.toNatClampNeg) jj m := by
  unfold sy_l
  by_cases h : NS k
  · rw [if_pos h, if_pos h]
  · rw [if_neg h, if_neg h]
    by_cases ho : NS ot
    · rw [if_pos ho, if_pos ho]
    · rw [if_neg ho, if_neg ho]
      rcases ksh_val K h with ⟨g1, g2⟩ | ⟨g1, g2, g3, g4, g5, g6⟩
      · rw [if_pos g1, if_pos g2]
      · rcases ksh_val K ho with ⟨o1, o2⟩ | ⟨o1, o2, o3, o4, o5, o6⟩
        · rw [g1, g2, if_pos o1, if_pos o2]
        · rw [g1, g2, o1, o2, g4, g5, o4, o5]
theorem loads_l {H N L a1 a2 a3 : Nat → Int32} {C : Nat → Nat → Int32} (K : KSH H N L C a1 a2 a3) {cnt c2 cy k ii lane m : Int32} (kc : cnt = c2) : sd_l cnt cy k (H k.toNatClampNeg) (L k.toNatClampNeg) (N k.toNatClampNeg) ii lane m = sd_l c2 cy k (hasM a1 k.toNatClampNeg) (a2 k.toNatClampNeg) (a1 k.toNatClampNeg) ii lane m := by
  subst kc
  unfold sd_l
  by_cases h : NS k
  · rw [if_pos h, if_pos h]
  · rw [if_neg h, if_neg h]
    rcases ksh_val K h with ⟨g1, g2⟩ | ⟨g1, g2, g3, g4, g5, g6⟩
    · rw [if_pos g1, if_pos g2]
    · rw [g1, g2, g4, g5]
theorem ksh0 {N L a2 a3 : Nat → Int32} {C : Nat → Nat → Int32} : KSH (w4 0 0 0 0) N L C mSz a2 a3 := by
  intro j hj
  rcases (show j = 0 ∨ j = 1 ∨ j = 2 ∨ j = 3 by omega) with rfl | rfl | rfl | rfl <;> exact Or.inl ⟨rfl, by decide +kernel⟩
