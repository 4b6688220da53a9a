def TZ (n : Int32) (t : FnI) : Prop := ∀ c : Nat, n.toInt ≤ c → n6 t c = 0
def OCI (n oc : Int32) (w : FnI) : Prop := ∀ j : Nat, (j : Int) < oc.toInt → ¬ NC n (w j)
def zM (n7 gv lim cap fst stf : Int32) (a8 a9 a10 a12 a13 a14 a15 a16 : FnI) : PZ := (n7.toInt.toNat, (gv, lim, cap, fst, stf), rmM a9 a10, a15, a8, n6 a16, ldM a9 a10 a12 a13, ndM a8 a9 a10 a12 a14 a13)
theorem nI_ofn {n : Int32} (h : 0 ≤ n.toInt) : n = nI n.toInt.toNat := Int32.toInt_inj.mp (by rw [nI_toInt (by have := Int32.toInt_lt n; omega)]; omega)
theorem run_v {n7 : Int32} (h7 : 0 ≤ n7.toInt ∧ n7.toInt ≤ 6) {gv lim cap fst stf mov mvs p0 left sk pr sol sol3 sk3 : Int32} {a8 a9 a10 a12 a13 a14 a15 a16 v b t o t1 o1 l0 fn0 fm0 fp0 row fn fm fp mv mv2 pm t2 o2 t3 o3 : FnI} {ht wk gn h1 w1 : Int64}
    (hb : B6 b) (ho : OB o) (htz : TZ n7 t) (hF : FB a15 a16) (hgv : 0 ≤ gv.toInt) (hs : 0 < stf) (h0 : 0 ≤ sol.toInt) (hcp : sol.toInt ≤ cap.toInt)
    (f1 : (t1, o1) = forX n7 (rlF a8 a15 a16 (ldM a9 a10 a12 a13) v b) 0 (t, o))
    (f2 : (mov, row, fn, fm, fp) = forX n7 (fmF lim (rmM a9 a10) a15 (ndM a8 a9 a10 a12 a14 a13) v b o1) 0 (0, l0, fn0, fm0, fp0))
    (f3 : (left, p0, mvs, pm, o2, t2, mv2) = forX mov (rpF row fm fn) 0 (gv, 0, 0, fp, o1, t1, mv))
    (f4 : sk = mSk lim cap (fst + sol / stf) left sol)
    (f5 : pr = mPr lim p0 (fst + sol / stf) sk (left - sk))
    (f6 : (h1, w1) = forX mov (rhF row pm fn pr) 0 (ht, wk))
    (f7 : (sol3, sk3, t3, o3) = if left = 0 then forX mov (rsF row fm fn pm fst stf) 0 (sol + sk, sk, t2, o2) else (sol + sk, sk, t2, o2)) :
    (n6 o3, n6 t3, sol3, pr, left - sk, sk3, h1 + (sk.toInt64 * (pr - (fst + sol / stf)).toInt64 + (left - sk).toInt64 * lim.toInt64), w1, gn + gv.toInt64 * pr.toInt64) = (kRUN (zM n7 gv lim cap fst stf a8 a9 a10 a12 a13 a14 a15 a16) (n6 v) (n6 b) (n6 o) sol ht wk gn).1 ∧ TKL mvs mv2 (kRUN (zM n7 gv lim cap fst stf a8 a9 a10 a12 a13 a14 a15 a16) (n6 v) (n6 b) (n6 o) sol ht wk gn).2 := by
  rw [nI_ofn h7.1] at f1 f2
  exact run_m (nn := n7.toInt.toNat) (by omega) (fun c hc => hb c (by omega)) (fun c => (ho c).1) (fun c hc => htz c (by omega)) (fun c => (hF c).1.1) hgv hs h0 hcp f1 f2 f3 f4 f5 f6 f7
theorem pS_out {mt nd : FnI} {x : Nat} : ∀ (L : List Nat) (s : PSt), ¬ x ∈ L → (L.foldl (pS mt nd) s).2.2.2.1 x = s.2.2.2.1 x
  | [], s, _ => rfl
  | c :: cs, s, h => by
    rw [List.foldl_cons, pS_out cs _ (fun e => h (List.mem_cons_of_mem _ e))]
    unfold pS pG
    by_cases h1 : mnI (mt c) s.1 ≤ 0
    · rw [if_pos h1]
    · rw [if_neg h1]
      exact pk_un (fun e => h (by rw [e]; simp))
theorem sS_out {mt nd : FnI} {fst stf : Int32} {x : Nat} : ∀ (L : List Nat) (s : SSt), ¬ x ∈ L → (L.foldl (sS mt nd fst stf) s).2.2.1 x = s.2.2.1 x
  | [], s, _ => rfl
  | c :: cs, s, h => by
    rw [List.foldl_cons, sS_out cs _ (fun e => h (List.mem_cons_of_mem _ e))]
    unfold sS sG
    by_cases h1 : prS fst stf s.1 < nd c
    · rw [if_pos h1]
    · rw [if_neg h1]
      exact pk_un (fun e => h (by rw [e]; simp))
theorem kRUN_tz {z : PZ} {v b o : FnI} {sol : Int32} {ht wk gn : Int64} {c : Nat} (h : z.1 ≤ c) : (kRUN z v b o sol ht wk gn).1.2.1 c = 0 := by
  unfold kRUN kR2 kR3
  have hl : ∀ {o1 : FnI}, ¬ c ∈ (lnR v b o1 z.2.2.1 (kND z.2.2.2.2.2.2.2 o1) z.2.1.2.1 z.1).reverse := fun e => by
    have := (lnR_mem z.1 (List.mem_reverse.mp e)).1
    omega
  have ht1 : kT1 z.1 z.2.2.2.2.1 z.2.2.2.1 z.2.2.2.2.2.1 z.2.2.2.2.2.2.1 v b o c = 0 := by
    unfold kT1
    rw [if_neg (by omega)]
  generalize kO1 z.1 z.2.2.2.2.1 z.2.2.2.1 z.2.2.2.2.2.1 z.2.2.2.2.2.2.1 v b o = o1
  generalize kT1 z.1 z.2.2.2.2.1 z.2.2.2.1 z.2.2.2.2.2.1 z.2.2.2.2.2.2.1 v b o = t1 at ht1 ⊢
  have hp := pS_out (mt := kMT z.2.2.2.1 z.2.2.1 o1) (nd := kND z.2.2.2.2.2.2.2 o1) _ (z.2.1.1, [], 0, t1, o1) (hl (o1 := o1))
  have hl1 := hl (o1 := o1)
  generalize (lnR v b o1 z.2.2.1 (kND z.2.2.2.2.2.2.2 o1) z.2.1.2.1 z.1).reverse = L at hp hl1 ⊢
  generalize L.foldl (pS (kMT z.2.2.2.1 z.2.2.1 o1) (kND z.2.2.2.2.2.2.2 o1)) (z.2.1.1, [], 0, t1, o1) = P at hp ⊢
  obtain ⟨left, T, p0, t2, o2⟩ := P
  have hp2 : t2 c = 0 := hp.trans ht1
  unfold kE0 kE1 kE2 kE3
  dsimp only
  by_cases h0 : left = 0
  · rw [if_pos h0, sS_out L _ hl1]; exact hp2
  · rw [if_neg h0]; exact hp2
theorem tz_of {n7 gv lim cap fst stf sol s1 s2 s3 s4 : Int32} {a8 a9 a10 a12 a13 a14 a15 a16 v b o o3 t3 : FnI} {ht wk gn h1 h2 h3 : Int64} (h7 : 0 ≤ n7.toInt) (kr : (n6 o3, n6 t3, s1, s2, s3, s4, h1, h2, h3) = (kRUN (zM n7 gv lim cap fst stf a8 a9 a10 a12 a13 a14 a15 a16) v b o sol ht wk gn).1) : TZ n7 t3 := by
  intro c hc
  have e : n6 t3 = (kRUN (zM n7 gv lim cap fst stf a8 a9 a10 a12 a13 a14 a15 a16) v b o sol ht wk gn).1.2.1 := by rw [← kr]
  rw [e]
  exact kRUN_tz (by show n7.toInt.toNat ≤ c; omega)
theorem mb_eq {a25 a26 a11 a9 a10 : FnI} {k : Int32} (hk : vp_in k 30) (hc : vp_in (a25 (k.toNatClampNeg)) 6) : r_g_mayBeDone a25 a26 a11 a9 a10 k = ISs (rmM a9 a10 (r_c_get 30 a25 k).toNatClampNeg) (r_c_get 30 a26 k) (r_c_get 6 a11 (r_c_get 30 a25 k)) := by
  rw [get_in (f := a25) hk (by decide), get_in (f := a26) hk (by decide), get_in (f := a11) hc (by decide)]
  rfl
theorem oci_at {n oc k : Int32} {a25 : FnI} (h : OCI n oc a25) (hk : vp_in k 30) (hl : ¬ oc ≤ k) : ¬ NC n (r_c_get 30 a25 k) := by
  rw [get_in hk (by decide)]
  have h1 := (vp_in_iff.mp hk).1
  rw [Int32.le_iff_toInt_le] at hl
  exact h _ (by show ((k.toInt.toNat : Nat) : Int) < _; omega)
theorem osv_eq {a27 a28 v : FnI} {k : Int32} (hk : vp_in k 30) (hd : vp_in (a27 (k.toNatClampNeg)) 6) : upd v (a27 (k.toNatClampNeg)).toNatClampNeg (a28 (k.toNatClampNeg)) = r_c_set 6 v (r_c_get 30 a27 k) (r_c_get 30 a28 k) := by
  rw [get_in (f := a27) hk (by decide), get_in (f := a28) hk (by decide), set_in hd (by decide)]
theorem obv_step {n oc k : Int32} {a25 a26 a27 a28 a11 a9 a10 v : FnI} {R : Int32 × FnI} (hk : vp_in k 30) (hc : vp_in (a25 (k.toNatClampNeg)) 6) (hd : vp_in (a27 (k.toNatClampNeg)) 6) (ho : OCI n oc a25) (hl : ¬ oc ≤ k) (hm : ¬ r_g_mayBeDone a25 a26 a11 a9 a10 k = 0) (h : obZ (wZ n oc a25 a26 a27 a28) (rmM a9 a10) a11 k v = R) : obZ (wZ n oc a25 a26 a27 a28) (rmM a9 a10) a11 (k + 1) (upd v (a27 (k.toNatClampNeg)).toNatClampNeg (a28 (k.toNatClampNeg))) = R := by
  rw [osv_eq hk hd]
  rw [mb_eq hk hc] at hm
  exact (ob_step (W := r_c_get 30 a25) hl (oci_at ho hk hl) hm).symm.trans h
theorem obv_no {n oc k : Int32} {a25 a26 a27 a28 a11 a9 a10 v : FnI} {R : Int32 × FnI} (hk : vp_in k 30) (hc : vp_in (a25 (k.toNatClampNeg)) 6) (ho : OCI n oc a25) (hl : ¬ oc ≤ k) (hm : r_g_mayBeDone a25 a26 a11 a9 a10 k = 0) (h : obZ (wZ n oc a25 a26 a27 a28) (rmM a9 a10) a11 k v = R) : (k, v) = R := by
  rw [mb_eq hk hc] at hm
  exact (ob_no (W := r_c_get 30 a25) hl (oci_at ho hk hl) hm).symm.trans h
theorem obv_end {n oc k : Int32} {a25 a26 a27 a28 a11 a9 a10 v : FnI} {R : Int32 × FnI} (hl : oc ≤ k) (h : obZ (wZ n oc a25 a26 a27 a28) (rmM a9 a10) a11 k v = R) : (k, v) = R := (ob_end hl).symm.trans h
theorem fin7 {n left : Int32} {S : Type} {a R S0 : S} (hl : n = if left = 0 then 1 else 0) (ha : ¬ n = 0 → a = R) (hb : n = 0 → a = S0) : a = if left = 0 then R else S0 := by
  by_cases h : left = 0
  · rw [if_pos h] at hl ⊢; exact ha (by rw [hl]; decide)
  · rw [if_neg h] at hl ⊢; exact hb hl
theorem cap_take {left cap kept : Int32} (hk : 0 ≤ kept.toInt ∧ kept.toInt ≤ 5000) (hl : 0 ≤ left.toInt ∧ left.toInt ≤ 1000) (hc : 0 ≤ cap.toInt ∧ cap.toInt ≤ 5000) (h : ¬ cap ≤ kept) : (kept + r_c_lesser left (cap - kept)).toInt ≤ cap.toInt := by
  rw [Int32.le_iff_toInt_le] at h
  have e : (cap - kept).toInt = cap.toInt - kept.toInt := by rw [Int32.toInt_sub, Int.bmod_eq_of_le] <;> omega
  have h2 := lesser2 left (cap - kept)
  rw [e] at h2
  have e2 : (kept + r_c_lesser left (cap - kept)).toInt = kept.toInt + (r_c_lesser left (cap - kept)).toInt := by rw [Int32.toInt_add, Int.bmod_eq_of_le] <;> omega
  omega
theorem cap_give {row mt o1 pd : Nat → Int32} {x mv kept cap : Int32} {B : Int} (hx : 0 ≤ x.toInt) (hlt : ¬ mv ≤ x) (hk : 0 ≤ kept.toInt ∧ kept.toInt ≤ 5000) (hG : RG mv.toInt row mt o1 B) (hP : PB pd) (hlt2 : ¬ mt (row x.toNatClampNeg).toNatClampNeg ≤ pd (row x.toNatClampNeg).toNatClampNeg) (hcp : kept.toInt ≤ cap.toInt) : (kept - (r_c_lesser (mt (row x.toNatClampNeg).toNatClampNeg - pd (row x.toNatClampNeg).toNatClampNeg) kept)).toInt ≤ cap.toInt := by
  have hlx := lt_of_nle hlt
  have hj := hG x.toNatClampNeg (by rw [cl_of hx]; exact hlx)
  generalize (row x.toNatClampNeg).toNatClampNeg = ci at hj hlt2 ⊢
  have hp := hP ci
  rw [Int32.le_iff_toInt_le] at hlt2
  have e0 : (mt ci - pd ci).toInt = (mt ci).toInt - (pd ci).toInt := by rw [Int32.toInt_sub, Int.bmod_eq_of_le] <;> omega
  have h2 := lesser2 (mt ci - pd ci) kept
  rw [e0] at h2
  generalize r_c_lesser (mt ci - pd ci) kept = v at h2 ⊢
  have e : (kept - v).toInt = kept.toInt - v.toInt := by rw [Int32.toInt_sub, Int.bmod_eq_of_le] <;> omega
  omega
