theorem kn_0 {k : CK} (h : ckH k = 0) : ckNm k = 0 := by rcases k with _ | (_ | _) <;> first | rfl | exact absurd h (by decide)
theorem kn_n {k : CK} (h : ¬ ckH k = 0) : ¬ ckNm k = 0 := by rcases k with _ | (_ | _) <;> first | exact absurd rfl h | decide
def fR (cs : List Cy) : Nat → FnI := fun j => match cs[j]? with | some y => y.2.2.2.2.2.2.2.2.2 | none => z0
theorem fR_cy {cs l1 l2 : List Cy} {y : Cy} {cnt cy : Int32} {fc : Nat → Option Nat} (h : CS cs cnt fc) (e : cs = l1 ++ y :: l2) (hc : cy = nI l1.length) : fR cs cy.toNatClampNeg = y.2.2.2.2.2.2.2.2.2 := by
  rw [CS_at h e hc, e]
  unfold fR
  rw [List.getElem?_append_right (Nat.le_refl _), Nat.sub_self]
  rfl
theorem fR_mid (l1 l2 : List Cy) (y : Cy) (j : Nat) : fR (l1 ++ y :: l2) j = if j = l1.length then y.2.2.2.2.2.2.2.2.2 else fR (l1 ++ l2) (if j < l1.length then j else j - 1) := by
  unfold fR
  by_cases h1 : j < l1.length
  · rw [if_neg (by omega), if_pos h1, List.getElem?_append_left h1, List.getElem?_append_left h1]
  · by_cases h2 : j = l1.length
    · subst h2; rw [if_pos rfl, List.getElem?_append_right (by omega), Nat.sub_self]; rfl
    · rw [if_neg h2, if_neg h1, List.getElem?_append_right (by omega), List.getElem?_append_right (by omega)]
      have e : j - l1.length = (j - 1 - l1.length) + 1 := by omega
      rw [e]; rfl
theorem fR_setc {cs l1 l2 : List Cy} {y y' : Cy} {cnt cy : Int32} {fc : Nat → Option Nat} (h : CS cs cnt fc) (e : cs = l1 ++ y :: l2) (hc : cy = nI l1.length) : fR (l1 ++ y' :: l2) = upF (fR cs) cy.toNatClampNeg y'.2.2.2.2.2.2.2.2.2 := by
  rw [CS_at h e hc, e]
  funext j
  unfold upF
  by_cases h2 : j = l1.length
  · rw [if_pos h2, fR_mid, if_pos h2]
  · rw [if_neg h2, fR_mid, fR_mid, if_neg h2, if_neg h2]
theorem fR_samec {cs l1 l2 : List Cy} {y y' : Cy} (e : cs = l1 ++ y :: l2) (h : y'.2.2.2.2.2.2.2.2.2 = y.2.2.2.2.2.2.2.2.2) : fR (l1 ++ y' :: l2) = fR cs := by
  rw [e]
  funext j
  rw [fR_mid, fR_mid, h]
theorem fR_push (cs : List Cy) {y : Cy} (h : y.2.2.2.2.2.2.2.2.2 = z0) : fR (cs ++ [y]) = fR cs := by
  funext j
  unfold fR
  by_cases h1 : j < cs.length
  · rw [List.getElem?_append_left h1]
  · rw [List.getElem?_append_right (by omega), List.getElem?_eq_none (l := cs) (by omega)]
    by_cases h2 : j = cs.length
    · subst h2; rw [Nat.sub_self]; exact h
    · obtain ⟨d, hd⟩ : ∃ d, j - cs.length = d + 1 := ⟨j - cs.length - 1, by omega⟩
      rw [hd]; rfl
def rmC (cs : List Cy) : FnI := fun c => fF yA cs c * fF yS cs c
def ldC (cs : List Cy) : Nat → Int32 → Int32 := pLD (fF yA cs) (fF yS cs) (fF yL cs) (fR cs)
def ndC (cs : List Cy) : Nat → Int32 → Int32 := pND (fF yK cs) (fF yA cs) (fF yS cs) (fF yL cs) (fF yC cs) (fR cs)
def zC (cs : List Cy) (gv lim cap fst stf : Int32) (flk : FnI) : PZ := (cs.length, (gv, lim, cap, fst, stf), rmC cs, fF yF cs, fF yK cs, n6 flk, ldC cs, ndC cs)
theorem dr_cy {cs l1 l2 : List Cy} {cnt x : Int32} {fc : Nat → Option Nat} {yb yr : Nat} {yk : CK} {ynum yar ysk ylc ycr yfl : Int32} {yrow : FnI} {fv fb flk t o : FnI} (h : CS cs cnt fc) (hn : NUM cs) (e : cs = l1 ++ (yb, yr, yk, ynum, yar, ysk, ylc, ycr, yfl, yrow) :: l2) (hc : x = nI l1.length) (hNC : ¬ NC cnt x) :
    (r_c_set 6 t x (-(mnI (r_c_get 6 o ynum) (mlX (ckNm yk) yfl (r_c_get 6 flk ynum) (LDs yar ysk ylc yrow (r_c_get 6 o ynum)) (r_c_get 6 fv ynum) (r_c_get 6 fb ynum)))), r_c_set 6 o ynum (r_c_get 6 o ynum - mnI (r_c_get 6 o ynum) (mlX (ckNm yk) yfl (r_c_get 6 flk ynum) (LDs yar ysk ylc yrow (r_c_get 6 o ynum)) (r_c_get 6 fv ynum) (r_c_get 6 fb ynum)))) = drF cnt (fF yK cs) (fF yF cs) (ldC cs) fv fb flk x (t, o) := by
  have hnum : ynum = x := (hn l1 l2 _ e).trans hc.symm
  subst hnum
  unfold drF
  rw [if_neg hNC, fF_cy yK h e hc, fF_cy yF h e hc]
  unfold ldC pLD
  rw [fF_cy yA h e hc, fF_cy yS h e hc, fF_cy yL h e hc, fR_cy h e hc]
  rfl
theorem dr_nc {cnt x : Int32} {kd fl fv fb flk t o : FnI} {ld : Nat → Int32 → Int32} (hNC : NC cnt x) : (r_c_set 6 t x 0, o) = drF cnt kd fl ld fv fb flk x (t, o) := by
  unfold drF
  rw [if_pos hNC]
theorem lu_cy {cs l1 l2 : List Cy} {cnt lim x : Int32} {fc : Nat → Option Nat} {yb yr : Nat} {yk : CK} {ynum yar ysk ylc ycr yfl : Int32} {yrow : FnI} {fv fb fo : FnI} {st : Int32 × FnI × FnI × FnI} (h : CS cs cnt fc) (e : cs = l1 ++ (yb, yr, yk, ynum, yar, ysk, ylc, ycr, yfl, yrow) :: l2) (hc : x = nI l1.length) (hNC : ¬ NC cnt x) (hv : r_c_get 6 fv x = 1) (hb : ¬ r_c_get 6 fb x = 1) :
    luF cnt lim (rmC cs) (fF yF cs) (ndC cs) fv fb fo x st = luG lim x (yar * ysk) (r_c_get 6 fo x) (r_c_set 6 st.2.2.1 x (NDs (ckNm yk) yar ysk ylc ycr yrow (r_c_get 6 fo x))) (r_c_set 6 st.2.2.2 x (mnI yfl (yar * ysk - r_c_get 6 fo x))) st := by
  unfold luF
  rw [if_neg hNC, if_pos hv, if_neg hb]
  unfold rmC ndC pND
  rw [fF_cy yK h e hc, fF_cy yF h e hc, fF_cy yA h e hc, fF_cy yS h e hc, fF_cy yL h e hc, fF_cy yC h e hc, fR_cy h e hc]
  rfl
theorem lu_mv {cnt c mov : Int32} (h : ¬ cnt ≤ c) (h0 : 0 ≤ mov.toInt) (h1 : mov.toInt ≤ c.toInt) : 0 ≤ (mov + 1).toInt ∧ (mov + 1).toInt ≤ (c + 1).toInt := by
  have e1 := inc_toInt h
  have h2 : c.toInt < cnt.toInt := by rw [Int32.le_iff_toInt_le] at h; omega
  have e2 := inc_toInt (i := mov) (n := cnt) (by rw [Int32.le_iff_toInt_le]; omega)
  omega
theorem lu_mv0 {cnt c mov : Int32} (h : ¬ cnt ≤ c) (h0 : 0 ≤ mov.toInt) (h1 : mov.toInt ≤ c.toInt) : 0 ≤ mov.toInt ∧ mov.toInt ≤ (c + 1).toInt := by
  have e1 := inc_toInt h
  omega
def AUP (tks : Int32) (fk ft fn : FnI) (prs : Int32) (ht wk gn : Int64) (stk own ovr lim gv : Int32) (ht' wk' gn' : Int64) : Prop := ∃ h1, (h1, wk') = forX tks (auF fk ft fn prs) 0 (ht, wk) ∧ ht' = h1 + stk.toInt64 * (prs - own).toInt64 + ovr.toInt64 * lim.toInt64 ∧ gn' = gn + gv.toInt64 * prs.toInt64
theorem run_c {cs : List Cy} {cnt : Int32} {fc : Nat → Option Nat} (hcs : CS cs cnt fc) {gv lim cap fst stf mov tks p0 left sk pr sol sol3 sk3 : Int32} {flk fv fb ft fo t1 o1 l0 fn0 fm0 ln fn fm fk fk2 t2 o2 t3 o3 : FnI} {ht wk gn ht' wk' gn' : Int64}
    (f1 : (t1, o1) = forX 6 (drF cnt (fF yK cs) (fF yF cs) (ldC cs) fv fb flk) 0 (ft, fo))
    (f2 : (mov, ln, fn, fm) = forX cnt (luF cnt lim (rmC cs) (fF yF cs) (ndC cs) fv fb o1) 0 (0, l0, fn0, fm0))
    (f3 : (tks, p0, t2, fk2, o2, left) = forX mov (tpF ln fm fn) 0 (0, 0, t1, fk, o1, gv))
    (f4 : sk = kSk lim cap (prS fst stf sol) left sol)
    (f5 : pr = kPr lim p0 (prS fst stf sol) sk (left - sk))
    (f6 : AUP tks fk2 t2 fn pr ht wk gn sk (prS fst stf sol) (left - sk) lim gv ht' wk' gn')
    (f7 : (sol3, sk3, t3, o3) = if left = 0 then forX mov (tsF ln fm fn fst stf) 0 (sol + sk, sk, t2, o2) else (sol + sk, sk, t2, o2)) :
    (n6 o3, n6 t3, sol3, pr, left - sk, sk3, ht', wk', gn') = (kRUN (zC cs gv lim cap fst stf flk) (n6 fv) (n6 fb) (n6 fo) sol ht wk gn).1 ∧ TKL tks fk2 (kRUN (zC cs gv lim cap fst stf flk) (n6 fv) (n6 fb) (n6 fo) sol ht wk gn).2 := by
  obtain ⟨h1, g1, g2, g3⟩ := f6
  obtain ⟨c1, c2, -⟩ := hcs
  subst c1 g2 g3
  exact run_k c2 f1 f2 f3 f4 f5 g1 f7
