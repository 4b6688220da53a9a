theorem as_congr {t t' nd : FnI} {p : Int32} : ∀ (L : List Nat) (st : Int64 × Int64), (∀ c ∈ L, t c = t' c) → L.foldl (aS t nd p) st = L.foldl (aS t' nd p) st
  | [], st, _ => by rw [List.foldl_nil, List.foldl_nil]
  | x :: xs, st, h => by
    have e : aS t nd p st x = aS t' nd p st x := by unfold aS; rw [h x (by simp)]
    rw [List.foldl_cons, List.foldl_cons, e]
    exact as_congr xs _ (fun c hc => h c (List.mem_cons_of_mem _ hc))
theorem line_t1 {nn : Nat} {kd fl lk v b o : FnI} {ld : Nat → Int32 → Int32} {c : Nat} (ho : 0 ≤ (o c).toInt) (hv : v c = 1) (hb : ¬ b c = 1) : lsS kd fl lk ld v b o c = 0 := by
  unfold lsS mlX
  rw [if_neg hb, hv, if_neg (by decide), if_neg (by decide)]
  exact mn_nonneg0 ho
def mSk (lim cap own left sol : Int32) : Int32 := if lim < own then 0 else if cap ≤ sol then 0 else r_c_lesser left (cap - sol)
def mPr (lim p0 own sk ov : Int32) : Int32 := if ov ≤ 0 then (if sk ≤ 0 then p0 else (if own ≤ p0 then p0 else own)) else lim
theorem mPr_eq (lim p0 own sk ov : Int32) : mPr lim p0 own sk ov = kPr lim p0 own sk ov := by unfold mPr kPr; rw [mx_alt]
theorem mSk_eq {lim cap own left sol : Int32} (hl : 0 ≤ left.toInt) (h0 : 0 ≤ sol.toInt) (hc : sol.toInt ≤ cap.toInt) : mSk lim cap own left sol = kSk lim cap own left sol := by
  unfold mSk kSk
  by_cases h : lim < own
  · rw [if_pos h, if_pos h]
  · rw [if_neg h, if_neg h]
    by_cases h2 : cap ≤ sol
    · rw [if_pos h2]
      rw [Int32.le_iff_toInt_le] at h2
      have hd := sub_le h0 hc
      have hv := mn_toInt left (cap - sol)
      exact Int32.toInt_inj.mp (by rw [Int32.toInt_zero]; omega)
    · rw [if_neg h2, mn_lesser]
theorem kSk_rng {lim cap own left sol : Int32} (hl : 0 ≤ left.toInt) (h0 : 0 ≤ sol.toInt) (hc : sol.toInt ≤ cap.toInt) : 0 ≤ (kSk lim cap own left sol).toInt ∧ (kSk lim cap own left sol).toInt ≤ left.toInt ∧ sol.toInt + (kSk lim cap own left sol).toInt ≤ cap.toInt := by
  unfold kSk
  by_cases h : lim < own
  · rw [if_pos h, Int32.toInt_zero]; omega
  · rw [if_neg h]
    have hd := sub_le h0 hc
    have hv := mn_toInt left (cap - sol)
    omega
theorem run_m {nn : Nat} (hnn : nn ≤ 6) {gv lim cap fst stf mov mvs p0 left sk pr sol sol3 sk3 : Int32} {rm fl kd lk v b t o t1 o1 l0 fn0 fm0 fp0 row fn fm fp mv mv2 pm t2 o2 t3 o3 : FnI} {ld nd : Nat → Int32 → Int32} {ht wk gn h1 w1 : Int64}
    (hb : ∀ c, c < 6 → b c = 0 ∨ b c = 1) (ho : ∀ c, 0 ≤ (o c).toInt) (htz : ∀ c, nn ≤ c → n6 t c = 0) (hfl : ∀ c, 0 ≤ (fl c).toInt) (hgv : 0 ≤ gv.toInt) (hs : 0 < stf) (h0 : 0 ≤ sol.toInt) (hcp : sol.toInt ≤ cap.toInt)
    (f1 : (t1, o1) = forX (nI nn) (rlF kd fl lk ld v b) 0 (t, o))
    (f2 : (mov, row, fn, fm, fp) = forX (nI nn) (fmF lim rm fl nd v b o1) 0 (0, l0, fn0, fm0, fp0))
    (f3 : (left, p0, mvs, pm, o2, t2, mv2) = forX mov (rpF row fm fn) 0 (gv, 0, 0, fp, o1, t1, mv))
    (f4 : sk = mSk lim cap (fst + sol / stf) left sol)
    (f5 : pr = mPr lim p0 (fst + sol / stf) sk (left - sk))
    (f6 : (h1, w1) = forX mov (rhF row pm fn pr) 0 (ht, wk))
    (f7 : (sol3, sk3, t3, o3) = if left = 0 then forX mov (rsF row fm fn pm fst stf) 0 (sol + sk, sk, t2, o2) else (sol + sk, sk, t2, o2)) :
    (n6 o3, n6 t3, sol3, pr, left - sk, sk3, h1 + (sk.toInt64 * (pr - (fst + sol / stf)).toInt64 + (left - sk).toInt64 * lim.toInt64), w1, gn + gv.toInt64 * pr.toInt64) = (kRUN (nn, (gv, lim, cap, fst, stf), rm, fl, kd, n6 lk, ld, nd) (n6 v) (n6 b) (n6 o) sol ht wk gn).1 ∧ TKL mvs mv2 (kRUN (nn, (gv, lim, cap, fst, stf), rm, fl, kd, n6 lk, ld, nd) (n6 v) (n6 b) (n6 o) sol ht wk gn).2 := by
  rw [← show prS fst stf sol = fst + sol / stf from if_pos hs] at f4 f5 ⊢
  obtain ⟨e1, e2⟩ := rl_k hnn hb ho htz f1
  obtain ⟨g1, g2, g3⟩ := fm_k hnn hb f2
  have hlen := lnR_len (v := n6 v) (b := n6 b) (o := n6 o1) (rm := rm) (nd := kND nd (n6 o1)) (lim := lim) nn
  have hnd := lnR_nodup (v := n6 v) (b := n6 b) (o := n6 o1) (rm := rm) (nd := kND nd (n6 o1)) (lim := lim) nn
  have hmem : ∀ c ∈ lnR (n6 v) (n6 b) (n6 o1) rm (kND nd (n6 o1)) lim nn, c < nn ∧ cdS (n6 v) (n6 b) (n6 o1) rm (kND nd (n6 o1)) lim c := fun c hc => lnR_mem nn hc
  have hrep := RPR_rep _ g2
  have hE : kRUN (nn, (gv, lim, cap, fst, stf), rm, fl, kd, n6 lk, ld, nd) (n6 v) (n6 b) (n6 o) sol ht wk gn = kR3 (lnR (n6 v) (n6 b) (n6 o1) rm (kND nd (n6 o1)) lim nn).reverse (kMT fl rm (n6 o1)) (kND nd (n6 o1)) gv lim cap fst stf (n6 t1) (n6 o1) sol ht wk gn := by
    unfold kRUN kR2
    dsimp only
    rw [← e1, ← e2]
  rw [hE]
  clear hE
  dsimp only at g1 g2 g3 hrep
  rw [← List.length_reverse] at g1
  have hL : (lnR (n6 v) (n6 b) (n6 o1) rm (kND nd (n6 o1)) lim nn).reverse.length ≤ 6 := by rw [List.length_reverse]; omega
  have hN : (lnR (n6 v) (n6 b) (n6 o1) rm (kND nd (n6 o1)) lim nn).reverse.Nodup := (List.reverse_perm _).nodup_iff.mpr hnd
  have hm2 : ∀ c ∈ (lnR (n6 v) (n6 b) (n6 o1) rm (kND nd (n6 o1)) lim nn).reverse, c < nn ∧ n6 t1 c = 0 ∧ 0 ≤ (kMT fl rm (n6 o1) c).toInt := fun c hc => by
    obtain ⟨c1, hv, hbb, hr, -⟩ := hmem c (List.mem_reverse.mp hc)
    have hoc : 0 ≤ (n6 o c).toInt := by rw [n6_at o (by omega)]; exact ho c
    have hls := line_t1 (nn := nn) (kd := kd) (fl := fl) (lk := n6 lk) (ld := ld) hoc hv hbb
    refine ⟨c1, ?_, ?_⟩
    · rw [e2]; unfold kT1; rw [if_pos c1, hls, Int32.neg_zero]
    · have ho1 : 0 ≤ (n6 o1 c).toInt := by rw [e1]; unfold kO1; rw [if_pos c1, hls, Int32.sub_zero]; exact hoc
      rw [Int32.le_iff_toInt_le] at hr
      have hd := sub_le (a := rm c) ho1 (by omega)
      have hv2 := mn_toInt (fl c) (rm c - n6 o1 c)
      have := hfl c
      unfold kMT
      omega
  have hON : ONM (lnR (n6 v) (n6 b) (n6 o1) rm (kND nd (n6 o1)) lim nn).reverse fn fm (kND nd (n6 o1)) (kMT fl rm (n6 o1)) := fun c hc => by
    have c1 := (hm2 c hc).1
    exact ⟨by omega, (g3 c c1).1, (g3 c c1).2.1⟩
  have hfp : ∀ c ∈ (lnR (n6 v) (n6 b) (n6 o1) rm (kND nd (n6 o1)) lim nn).reverse, c < 6 := fun c hc => (hON c hc).1
  generalize (lnR (n6 v) (n6 b) (n6 o1) rm (kND nd (n6 o1)) lim nn).reverse = L at g1 hrep hL hN hm2 hON hfp ⊢
  generalize kND nd (n6 o1) = ndf at hON ⊢
  generalize kMT fl rm (n6 o1) = mtf at hm2 hON ⊢
  subst g1
  have hp := rp_k (pm := fp) (o := o1) (t := t1) (mv := mv) (gv := gv) hL hrep hON
  rw [← f3] at hp
  have hpm := pm_eq (mt := mtf) (nd := ndf) L (gv, [], 0, n6 t1, n6 o1) (n6 fp) hN (fun c hc => (hm2 c hc).2.1) (fun c hc => (hm2 c hc).2.2) hgv
  obtain ⟨T1, q1, q2⟩ := tk_list (mt := mtf) (nd := ndf) L (gv, [], 0, n6 t1, n6 o1) hN (fun c hc => (hm2 c hc).2.1) (fun c hc => (hm2 c hc).2.2) hgv
  unfold kR3
  dsimp only at hpm
  generalize L.foldl (mS mtf ndf) (gv, [], 0, n6 fp, n6 t1, n6 o1) = Rr at hp hpm
  generalize L.foldl (pS mtf ndf) (gv, [], 0, n6 t1, n6 o1) = P at hpm q1 q2 ⊢
  obtain ⟨left', T, p0', t2', o2'⟩ := P
  obtain ⟨i1, i2, i3, i4, i5, i6, -, i8⟩ := hpm
  obtain ⟨a1, a2, a3, a4, a5, a6, a7, a8⟩ := hp
  dsimp only at i1 i2 i3 i4 i5 i6 i8 a1 a2 a3 a4 a5 a6 a7 a8 q1 q2
  rw [i1] at a1
  rw [i3] at a2
  rw [i2] at a3 a7 a8
  rw [i5] at a5
  rw [i4] at a6
  subst a1 a2 a5 a6
  have hpm6 : ∀ c ∈ L, n6 pm c = n6 t2 c := fun c hc => by rw [a4]; exact (i6 c hc).1
  have hh := rh_k (pm := pm) (p := pr) hL hrep hON (ht, wk)
  rw [← f6, as_congr L (ht, wk) hpm6, ← q2 (n6 t2) (fun c _ => rfl) pr (ht, wk), ← (show T = T1 from by simpa using q1)] at hh
  have hsk := mSk_eq (lim := lim) (own := prS fst stf sol) i8 h0 hcp
  rw [hsk] at f4
  rw [mPr_eq] at f5
  have hrg := kSk_rng (lim := lim) (own := prS fst stf sol) i8 h0 hcp
  rw [← f4] at hrg
  have hk0 : 0 ≤ (sol + sk).toInt := by
    have := Int32.toInt_lt cap
    rw [Int32.toInt_add, Int.bmod_eq_of_le] <;> omega
  have hss := rs_k (pm := pm) (t := t2) (o := o2) (fst := fst) (k0 := sol + sk) (s0 := sk) hL hs hrep hON
  rw [st_eq L (sol + sk, sk, n6 t2, n6 o2) hN (fun c hc => ⟨(hpm6 c hc).symm, by rw [hpm6 c hc]; exact (i6 c hc).2.1, by rw [hpm6 c hc]; exact (i6 c hc).2.2⟩) hk0] at hss
  unfold kE0 kE1 kE2 kE3
  dsimp only
  rw [← f4, ← f5, ← hh, Int64.add_assoc]
  refine ⟨?_, a3, a7, by omega⟩
  by_cases hz : left = 0
  · rw [if_pos hz] at f7 ⊢
    rw [← f7] at hss
    obtain ⟨b1, b2, b3, b4⟩ := hss
    dsimp only at b1 b2 b3 b4
    rw [b1, b2, b3, b4]
  · rw [if_neg hz] at f7 ⊢
    injection f7 with q1 q2
    injection q2 with q2 q3
    injection q3 with q3 q4
    rw [q1, q2, q3, q4]
