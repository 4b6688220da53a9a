-- the compared answers
theorem cmp_valve {r1 r2 cnt n7 cy v : Int32} {fv a17 : FnI} (h1 : r1 = vl_r cnt fv cy v) (h2 : r2 = vl_r n7 a17 cy v) (kc : cnt = n7) (kv : EQn 6 fv a17) : r1 = r2 := by
  rw [h1, h2, kc]
  unfold vl_r
  rw [EQn6_get kv]
theorem cmp_fill {r1 r2 cnt n7 cy v : Int32} {cs : List Cy} {fo a9 a10 a11 : FnI} (h1 : r1 = fi_r cnt (rmC cs) fo cy v) (h2 : r2 = fi_r n7 (rmM a9 a10) a11 cy v) (kc : cnt = n7) (ka : fF yA cs = a9) (ks : fF yS cs = a10) (kfo : EQn 6 fo a11) : r1 = r2 := by
  rw [h1, h2, kc, rmCM ka ks]
  unfold fi_r
  rw [EQn6_get kfo]
theorem cmp_store {r1 r2 sol s2 x1 x2 x3 : Int32} (h1 : r1 = sx_r sol x1 x2 x3) (h2 : r2 = sx_r s2 x1 x2 x3) (k : sol = s2) : r1 = r2 := by rw [h1, h2, k]
theorem cmp_about {r1 r2 cnt n7 cy what : Int32} {cs : List Cy} {fo fv fb ft a8 a9 a10 a11 a12 a13 a14 a17 a18 a19 : FnI} (h1 : r1 = ab_r cnt (fF yK cs) (fF yA cs) (fF yS cs) (fF yL cs) fo fv fb ft (ldC cs) (ndC cs) cy what) (h2 : r2 = ab_r n7 a8 a9 a10 a12 a11 a17 a18 a19 (ldM a9 a10 a12 a13) (ndM a8 a9 a10 a12 a14 a13) cy what) (kc : cnt = n7) (kk : fF yK cs = a8) (ka : fF yA cs = a9) (ks : fF yS cs = a10) (kL : fF yL cs = a12) (kcr : fF yC cs = a14) (kld : KLD (fR cs) a13) (kfo : EQn 6 fo a11) (kfv : EQn 6 fv a17) (kb : EQn 6 fb a18) (kft : EQn 6 ft a19) : r1 = r2 := by
  have e1 := ldCM ka ks kL kld
  have e2 := ndCM kk ka ks kL kcr kld
  rw [h1, h2, e1, e2, kc, kk, ka, ks, kL]
  unfold ab_r
  rw [EQn6_get kfo, EQn6_get kfv, EQn6_get kb, EQn6_get kft]
theorem cmp_gauge {r1 r2 td prs ovr stk tks td2 prs2 ovr2 stk2 tks2 what : Int32} (h1 : r1 = ga_r td prs ovr stk tks what) (h2 : r2 = ga_r td2 prs2 ovr2 stk2 tks2 what) (e1 : td = td2) (e2 : prs = prs2) (e3 : ovr = ovr2) (e4 : stk = stk2) (e5 : tks = tks2) : r1 = r2 := by rw [h1, h2, e1, e2, e3, e4, e5]
theorem cmp_tell {r1 r2 cnt n7 cy : Int32} {cs : List Cy} {fo a8 a11 : FnI} (h1 : r1 = st_r cnt (fF yK cs) fo cy) (h2 : r2 = st_r n7 a8 a11 cy) (kc : cnt = n7) (kk : fF yK cs = a8) (kfo : EQn 6 fo a11) : r1 = r2 := by
  rw [h1, h2, kc, kk]
  unfold st_r
  rw [EQn6_get kfo]
theorem cmp_told {r1 r2 cnt oc rc tck n7 o2 c2 t2 what : Int32} {cs : List Cy} {fo a9 a10 a11 : FnI} (h1 : r1 = to_r cnt oc rc tck (rmC cs) fo what) (h2 : r2 = to_r n7 o2 c2 t2 (rmM a9 a10) a11 what) (kc : cnt = n7) (ko : oc = o2) (kr : rc = c2) (kt : tck = t2) (ka : fF yA cs = a9) (ks : fF yS cs = a10) (kfo : EQn 6 fo a11) : r1 = r2 := by
  rw [h1, h2, kc, ko, kr, kt, rmCM ka ks]
  unfold to_r
  rw [hm_eqn kfo 1, hm_eqn kfo 2]
theorem cmp_sum {r1 r2 ht wk gn ht2 wk2 gn2 : Int64} {sol fst stf sol2 fst2 stf2 what : Int32} (h1 : r1 = su_r ht wk gn sol fst stf what) (h2 : r2 = su_r ht2 wk2 gn2 sol2 fst2 stf2 what) (e1 : ht = ht2) (e2 : wk = wk2) (e3 : gn = gn2) (e4 : sol = sol2) (e5 : fst = fst2) (e6 : stf = stf2) : lg_cmp r1 r2 = 0 := lg_eq0 (by rw [h1, h2, e1, e2, e3, e4, e5, e6])
