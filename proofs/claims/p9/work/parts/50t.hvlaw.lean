-- both sides' pictures of a tick are one
theorem EQn10_get {f a : FnI} (h : EQn 10 f a) : r_c_get 10 f = r_c_get 10 a := by
  funext x
  unfold r_c_get
  by_cases h1 : x < 0
  · rw [if_pos h1, if_pos h1]
  · rw [if_neg h1, if_neg h1]
    by_cases h2 : Int32.ofNat 10 ≤ x
    · rw [if_pos h2, if_pos h2]
    · rw [if_neg h2, if_neg h2]
      rw [Int32.lt_iff_toInt_lt, Int32.toInt_zero] at h1
      rw [Int32.le_iff_toInt_le, show (Int32.ofNat 10).toInt = 10 from by decide] at h2
      exact h _ (by show ((x.toInt.toNat : Nat) : Int) < 10; omega)
def KLD (R : Nat → FnI) (A : FnI) : Prop := ∀ c j : Nat, j < 10 → R c j = A (10 * c + j)
theorem kld_get {R : Nat → FnI} {A : FnI} (K : KLD R A) (c : Nat) : r_c_get 10 (R c) = r_c_get 10 (mrw A c) := EQn10_get (fun j hj => K c j (by omega))
theorem LDs_row {ar sk lc o : Int32} {r1 r2 : FnI} (h : r_c_get 10 r1 = r_c_get 10 r2) : LDs ar sk lc r1 o = LDs ar sk lc r2 o := by unfold LDs; rw [h]
theorem rmCM {cs : List Cy} {a9 a10 : FnI} (ka : fF yA cs = a9) (ks : fF yS cs = a10) : rmC cs = rmM a9 a10 := by
  subst ka ks; rfl
theorem ldCM {cs : List Cy} {a9 a10 a12 a13 : FnI} (ka : fF yA cs = a9) (ks : fF yS cs = a10) (kL : fF yL cs = a12) (kld : KLD (fR cs) a13) : ldC cs = ldM a9 a10 a12 a13 := by
  subst ka ks kL
  funext c o
  exact LDs_row (kld_get kld c)
theorem ndCM {cs : List Cy} {a8 a9 a10 a12 a13 a14 : FnI} (kk : fF yK cs = a8) (ka : fF yA cs = a9) (ks : fF yS cs = a10) (kL : fF yL cs = a12) (kcr : fF yC cs = a14) (kld : KLD (fR cs) a13) : ndC cs = ndM a8 a9 a10 a12 a14 a13 := by
  subst kk ka ks kL kcr
  funext c o
  unfold ndC ndM pND NDs
  rw [LDs_row (kld_get kld c)]
theorem zCM {cs : List Cy} {cnt gv lim cap fst stf g5 g6 g7 g20 g21 g22 : Int32} {fc : Nat → Option Nat} {flk a8 a9 a10 a12 a13 a14 a15 a16 : FnI} (hcs : CS cs cnt fc) (kc : cnt = g7) (kg : gv = g5) (kl : lim = g6) (kcap : cap = g20) (kfst : fst = g21) (kstf : stf = g22) (kk : fF yK cs = a8) (ka : fF yA cs = a9) (ks : fF yS cs = a10) (kL : fF yL cs = a12) (kcr : fF yC cs = a14) (kfl : fF yF cs = a15) (klk : EQn 6 flk a16) (kld : KLD (fR cs) a13) : zC cs gv lim cap fst stf flk = zM g7 g5 g6 g20 g21 g22 a8 a9 a10 a12 a13 a14 a15 a16 := by
  have hn : cs.length = g7.toInt.toNat := by
    obtain ⟨h1, h2, -⟩ := hcs
    rw [← kc, h1, nI_toInt (by omega)]
    omega
  have e1 := rmCM ka ks
  have e2 := ldCM ka ks kL kld
  have e3 := ndCM kk ka ks kL kcr kld
  unfold zC zM
  rw [hn, e1, e2, e3, EQn6_n6 klk, kg, kl, kcap, kfst, kstf, kfl, kk]
theorem wZM {cnt oc g7 g24 : Int32} {fow foe fot fov a25 a26 a27 a28 : FnI} (kc : cnt = g7) (ko : oc = g24) (k1 : EQn 30 fow a25) (k2 : EQn 30 foe a26) (k3 : EQn 30 fot a27) (k4 : EQn 30 fov a28) : wZ cnt oc fow foe fot fov = wZ g7 g24 a25 a26 a27 a28 := by
  unfold wZ
  rw [kc, ko, EQn30_get k1, EQn30_get k2, EQn30_get k3, EQn30_get k4]
theorem s0_eq {w sol prs ovr stk w2 sol2 prs2 ovr2 stk2 : Int32} {v o t v2 o2 t2 : FnI} {ht wk gn ht2 wk2 gn2 : Int64} {T : List Nat} (e1 : w = w2) (e2 : EQn 6 v v2) (e3 : EQn 6 o o2) (e4 : EQn 6 t t2) (e5 : sol = sol2) (e6 : prs = prs2) (e7 : ovr = ovr2) (e8 : stk = stk2) (e9 : ht = ht2) (e10 : wk = wk2) (e11 : gn = gn2) : ((w, n6 v, (n6 o, n6 t, sol, prs, ovr, stk, ht, wk, gn), T) : TST) = (w2, n6 v2, (n6 o2, n6 t2, sol2, prs2, ovr2, stk2, ht2, wk2, gn2), T) := by
  rw [e1, EQn6_n6 e2, EQn6_n6 e3, EQn6_n6 e4, e5, e6, e7, e8, e9, e10, e11]
theorem tkn_cast {z z2 : PZ} {wz wz2 : OZ} {b b2 : FnI} {tck tck2 nn w sol prs ovr stk tks : Int32} {s0 s02 : TST} {v o t fk : FnI} {ht wk gn : Int64} (h : TKN (kTK z wz b) tck nn s0 w v o t sol prs ovr stk ht wk gn tks fk) (e1 : z = z2) (e2 : wz = wz2) (e3 : b = b2) (e4 : tck = tck2) (e5 : s0 = s02) : TKN (kTK z2 wz2 b2) tck2 nn s02 w v o t sol prs ovr stk ht wk gn tks fk := by
  subst e1 e2 e3 e4 e5; exact h
theorem tkn_eq {G : TST → TST} {tck nn w sol prs ovr stk tks w2 sol2 prs2 ovr2 stk2 tks2 : Int32} {s0 : TST} {v o t fk v2 o2 t2 fk2 : FnI} {ht wk gn ht2 wk2 gn2 : Int64} (h1 : TKN G tck nn s0 w v o t sol prs ovr stk ht wk gn tks fk) (h2 : TKN G tck nn s0 w2 v2 o2 t2 sol2 prs2 ovr2 stk2 ht2 wk2 gn2 tks2 fk2) : w = w2 ∧ EQn 6 v v2 ∧ EQn 6 o o2 ∧ EQn 6 t t2 ∧ sol = sol2 ∧ prs = prs2 ∧ ovr = ovr2 ∧ stk = stk2 ∧ ht = ht2 ∧ wk = wk2 ∧ gn = gn2 ∧ ∃ T9 : List Nat, TKL tks fk T9 ∧ TKL tks2 fk2 T9 := by
  obtain ⟨T, a1, b1⟩ := h1
  obtain ⟨T2, a2, b2⟩ := h2
  have e := b1.trans b2.symm
  simp only [Prod.mk.injEq] at e
  obtain ⟨e1, e2, ⟨e3, e4, e5, e6, e7, e8, e9, e10, e11⟩, e12⟩ := e
  subst e12
  exact ⟨e1, n6_EQn6 e2, n6_EQn6 e3, n6_EQn6 e4, e5, e6, e7, e8, e9, e10, e11, T, a1, a2⟩
theorem tkl_back {a b : Int32} {f g : FnI} {T : List Nat} (h : TKL a f T) (e : b = a) (eg : EQn 6 g f) : TKL b g T := by
  obtain ⟨h1, h2, h3⟩ := h
  refine ⟨e.trans h1, fun j x hj => ?_, h3⟩
  have hlt : j < T.length := (List.getElem?_eq_some_iff.mp hj).1
  rw [eg j (by omega)]
  exact h2 j x hj
theorem tz_back {n : Int32} {t t2 : FnI} (h : TZ n t) (e : EQn 6 t2 t) : TZ n t2 := by
  intro c hc
  rw [EQn6_n6 e]
  exact h c hc
theorem scn_le {n kd ar sk : Int32} (h7 : 0 ≤ n.toInt ∧ n.toInt ≤ 6) : n.toInt ≤ (sc_n n kd ar sk).toInt := by
  unfold sc_n
  by_cases h : BADC kd ar sk
  · rw [if_pos h]; exact Int.le_refl _
  · rw [if_neg h]
    by_cases h6 : n = 6
    · rw [if_pos h6]; exact Int.le_refl _
    · rw [if_neg h6, Int32.toInt_add, show (1 : Int32).toInt = 1 from by decide, Int.bmod_eq_of_le] <;> omega
theorem tz_cyl {n kd ar sk : Int32} {t : FnI} (h7 : 0 ≤ n.toInt ∧ n.toInt ≤ 6) (h : TZ n t) : TZ (sc_n n kd ar sk) t := fun c hc => h c (Int.le_trans (scn_le h7) hc)
theorem oci_cyl {n oc kd ar sk : Int32} {w : FnI} (h7 : 0 ≤ n.toInt ∧ n.toInt ≤ 6) (h : OCI n oc w) : OCI (sc_n n kd ar sk) oc w := by
  intro j hj hc
  refine h j hj ?_
  have hl := scn_le (kd := kd) (ar := ar) (sk := sk) h7
  rcases hc with hc | hc
  · exact Or.inl hc
  · refine Or.inr ?_
    rw [Int32.le_iff_toInt_le] at hc ⊢
    omega
theorem n6_z (c : Nat) : n6 z0 c = 0 := by
  unfold n6
  split <;> rfl
theorem tkl_nil : TKL 0 z0 [] := ⟨rfl, fun j x h => by simp at h, by decide⟩
-- loads
theorem ldok_iff {H N L a1 a2 a3 : Nat → Int32} {C : Nat → Nat → Int32} (K : KSH H N L C a1 a2 a3) (hS : SZ a1) {cnt c2 cy k ii lane m : Int32} (kc : cnt = c2) : LDOK cnt cy k (H k.toNatClampNeg) (L k.toNatClampNeg) (N k.toNatClampNeg) ii lane m (AWX (fun x9 => r_c_get 20 (C k.toNatClampNeg) (ii + nI x9)) m 100000) ↔ LDOK c2 cy k (hasM a1 k.toNatClampNeg) (a2 k.toNatClampNeg) (a1 k.toNatClampNeg) ii lane m (AWX (fun x9 => a3 ((20 * k + ii + nI x9).toNatClampNeg)) m 100000) := by
  subst kc
  by_cases h : NS k
  · exact ⟨fun q => absurd h q.2.1, fun q => absurd h q.2.1⟩
  · rcases ksh_val K h with ⟨g1, g2⟩ | ⟨g1, g2, g3, g4, g5, g6⟩
    · exact ⟨fun q => absurd g1 q.2.2.2.1, fun q => absurd g2 q.2.2.2.1⟩
    · rw [g1, g2, g4, g5]
      by_cases hd : HOLD (a1 k.toNatClampNeg) ii m
      · rw [propext (awx_iff (H := H) (N := N) (L := L) (a2 := a2) (mst := 100000) hS h hd g6)]
      · exact ⟨fun q => absurd q.2.2.2.2.2.2.1 hd, fun q => absurd q.2.2.2.2.2.2.1 hd⟩
theorem loads_F {α : Type} {old new : α} {H N L a1 a2 a3 : Nat → Int32} {C : Nat → Nat → Int32} (K : KSH H N L C a1 a2 a3) (hS : SZ a1) {cnt c2 cy k ii lane m : Int32} (kc : cnt = c2) : sd_F cnt cy k (H k.toNatClampNeg) (L k.toNatClampNeg) (N k.toNatClampNeg) ii lane m (AWX (fun x9 => r_c_get 20 (C k.toNatClampNeg) (ii + nI x9)) m 100000) old new = sd_F c2 cy k (hasM a1 k.toNatClampNeg) (a2 k.toNatClampNeg) (a1 k.toNatClampNeg) ii lane m (AWX (fun x9 => a3 ((20 * k + ii + nI x9).toNatClampNeg)) m 100000) old new := by
  have hi := ldok_iff K hS (cy := cy) (k := k) (ii := ii) (lane := lane) (m := m) kc
  by_cases q : LDOK cnt cy k (H k.toNatClampNeg) (L k.toNatClampNeg) (N k.toNatClampNeg) ii lane m (AWX (fun x9 => r_c_get 20 (C k.toNatClampNeg) (ii + nI x9)) m 100000)
  · rw [sd_F_y q, sd_F_y (hi.mp q)]
  · rw [sd_F_n q, sd_F_n (fun e => q (hi.mpr e))]
theorem kld_loads {R R' : Nat → FnI} {H N L a1 a2 a3 a13 b13 : Nat → Int32} {C : Nat → Nat → Int32} (K : KSH H N L C a1 a2 a3) (hS : SZ a1) {cnt c2 cy k ii lane m : Int32} (kc : cnt = c2) (h7 : 0 ≤ c2.toInt ∧ c2.toInt ≤ 6) (kld : KLD R a13)
    (e1 : R' = sd_F cnt cy k (H k.toNatClampNeg) (L k.toNatClampNeg) (N k.toNatClampNeg) ii lane m (AWX (fun x9 => r_c_get 20 (C k.toNatClampNeg) (ii + nI x9)) m 100000) R (upF R cy.toNatClampNeg (forX m (nlF (C k.toNatClampNeg) ii) 0 (R cy.toNatClampNeg))))
    (f1 : b13 = sd_F c2 cy k (hasM a1 k.toNatClampNeg) (a2 k.toNatClampNeg) (a1 k.toNatClampNeg) ii lane m (AWX (fun x9 => a3 ((20 * k + ii + nI x9).toNatClampNeg)) m 100000) a13 (forX m (mlF a3 k ii cy) 0 a13)) : KLD R' b13 := by
  rw [loads_F K hS kc] at e1
  by_cases q : LDOK c2 cy k (hasM a1 k.toNatClampNeg) (a2 k.toNatClampNeg) (a1 k.toNatClampNeg) ii lane m (AWX (fun x9 => a3 ((20 * k + ii + nI x9).toNatClampNeg)) m 100000)
  · rw [sd_F_y q] at e1 f1
    obtain ⟨q1, q2, -, q4, -, q6, q7, q8, -⟩ := q
    rcases ksh_val K q2 with ⟨-, g2⟩ | ⟨g1, g2, g3, g4, g5, g6⟩
    · exact absurd g2 q4
    · have hs := hS k.toNatClampNeg
      obtain ⟨i0, m0, im⟩ := q7
      have hm10 : 1 ≤ m.toInt ∧ m.toInt ≤ 10 := by
        rw [within_eq, show (1 : Int32).toInt = 1 from by decide, show (10 : Int32).toInt = 10 from by decide] at q8
        by_cases hh : 1 ≤ m.toInt ∧ m.toInt ≤ 10
        · exact hh
        · exact absurd (if_neg hh) q8
      have hc6 : vp_in cy 6 := by
        rw [vp_in_iff]
        have q1' : ¬ (cy < 0 ∨ c2 ≤ cy) := q1
        rw [Int32.lt_iff_toInt_lt, Int32.toInt_zero, Int32.le_iff_toInt_le] at q1'
        omega
      have hk4 : vp_in k 4 := by
        rw [vp_in_iff]
        have := kn_lt q2
        omega
      have ei := cl_of i0
      have em : m = nI m.toInt.toNat := Int32.toInt_inj.mp (by rw [nI_toInt (by omega)]; omega)
      obtain ⟨n, hn⟩ : ∃ n : Nat, n = m.toInt.toNat := ⟨_, rfl⟩
      rw [← hn] at em
      rw [em] at e1 f1
      subst e1 f1
      intro c j hj
      rw [ml_at (by omega) hc6 hk4 i0 (by omega)]
      unfold upF
      by_cases e : c = cy.toNatClampNeg
      · subst e
        rw [if_pos rfl, nl_at (by omega) i0 (by omega) hj]
        by_cases hjn : j < n
        · rw [if_pos hjn, if_pos (by omega), g6 _ (by omega), show 10 * cy.toNatClampNeg + j - 10 * cy.toNatClampNeg = j by omega]
        · rw [if_neg hjn, if_neg (by omega)]
          exact kld _ j hj
      · rw [if_neg e, if_neg (by omega)]
        exact kld c j hj
  · rw [sd_F_n q] at e1 f1
    subst e1 f1
    exact kld
