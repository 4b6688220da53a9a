-- the compared answers
theorem cmp_gauge {r1 r2 td prs ovr stk tks td2 prs2 ovr2 stk2 tks2 what : Int32} (h1 : r1 = ga_r td prs ovr stk tks what) (h2 : r2 = ga_r td2 prs2 ovr2 stk2 tks2 what) (e1 : td = td2) (e2 : prs = prs2) (e3 : ovr = ovr2) (e4 : stk = stk2) (e5 : tks = tks2) : r1 = r2 := by rw [h1, h2, e1, e2, e3, e4, e5]
