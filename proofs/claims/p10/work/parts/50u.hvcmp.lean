-- the compared answers
theorem cmp_about {r1 r2 cnt n7 cy what : Int32} {cs : List Cy} {fo fv fb ft a8 a9 a10 a11 a12 a13 a14 a17 a18 a19 : FnI} (h1 : r1 = ab_r cnt (fF yK cs) (fF yA cs) (fF yS cs) (fF yL cs) fo fv fb ft (ldC cs) (ndC cs) cy what) (h2 : r2 = ab_r n7 a8 a9 a10 a12 a11 a17 a18 a19 (ldM a9 a10 a12 a13) (ndM a8 a9 a10 a12 a14 a13) cy what) (kc : cnt = n7) (kk : fF yK cs = a8) (ka : fF yA cs = a9) (ks : fF yS cs = a10) (kL : fF yL cs = a12) (kcr : fF yC cs = a14) (kld : KLD (fR cs) a13) (kfo : EQn 6 fo a11) (kfv : EQn 6 fv a17) (kb : EQn 6 fb a18) (kft : EQn 6 ft a19) : r1 = r2 := by
  have e1 := ldCM ka ks kL kld
  have e2 := ndCM kk ka ks kL kcr kld
  rw [h1, h2, e1, e2, kc, kk, ka, ks, kL]
  unfold ab_r
  rw [EQn6_get kfo, EQn6_get kfv, EQn6_get kb, EQn6_get kft]
