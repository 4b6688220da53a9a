-- the compared answers
theorem cmp_fill {r1 r2 cnt n7 cy v : Int32} {cs : List Cy} {fo a9 a10 a11 : FnI} (h1 : r1 = fi_r cnt (rmC cs) fo cy v) (h2 : r2 = fi_r n7 (rmM a9 a10) a11 cy v) (kc : cnt = n7) (ka : fF yA cs = a9) (ks : fF yS cs = a10) (kfo : EQn 6 fo a11) : r1 = r2 := by
  rw [h1, h2, kc, rmCM ka ks]
  unfold fi_r
  rw [EQn6_get kfo]
