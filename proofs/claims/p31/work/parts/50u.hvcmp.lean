-- the compared answers
theorem cmp_told {r1 r2 cnt oc rc tck n7 o2 c2 t2 what : Int32} {cs : List Cy} {fo a9 a10 a11 : FnI} (h1 : r1 = to_r cnt oc rc tck (rmC cs) fo what) (h2 : r2 = to_r n7 o2 c2 t2 (rmM a9 a10) a11 what) (kc : cnt = n7) (ko : oc = o2) (kr : rc = c2) (kt : tck = t2) (ka : fF yA cs = a9) (ks : fF yS cs = a10) (kfo : EQn 6 fo a11) : r1 = r2 := by
  rw [h1, h2, kc, ko, kr, kt, rmCM ka ks]
  unfold to_r
  rw [hm_eqn kfo 1, hm_eqn kfo 2]
