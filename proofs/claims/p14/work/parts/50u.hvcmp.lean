-- the compared answers
theorem cmp_sum {r1 r2 ht wk gn ht2 wk2 gn2 : Int64} {sol fst stf sol2 fst2 stf2 what : Int32} (h1 : r1 = su_r ht wk gn sol fst stf what) (h2 : r2 = su_r ht2 wk2 gn2 sol2 fst2 stf2 what) (e1 : ht = ht2) (e2 : wk = wk2) (e3 : gn = gn2) (e4 : sol = sol2) (e5 : fst = fst2) (e6 : stf = stf2) : lg_cmp r1 r2 = 0 := lg_eq0 (by rw [h1, h2, e1, e2, e3, e4, e5, e6])
