-- the compared answers
theorem cmp_tell {r1 r2 cnt n7 cy : Int32} {cs : List Cy} {fo a8 a11 : FnI} (h1 : r1 = st_r cnt (fF yK cs) fo cy) (h2 : r2 = st_r n7 a8 a11 cy) (kc : cnt = n7) (kk : fF yK cs = a8) (kfo : EQn 6 fo a11) : r1 = r2 := by
  rw [h1, h2, kc, kk]
  unfold st_r
  rw [EQn6_get kfo]
