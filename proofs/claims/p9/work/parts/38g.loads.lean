-- LOADS: what a row gets
def nlF (fcl : FnI) (ii x : Int32) (row : FnI) : FnI := r_c_set 10 row x (r_c_get 20 fcl (ii + x))
def mlF (a3 : FnI) (k ii cy x : Int32) (f : FnI) : FnI := upd f ((10 * cy + x).toNatClampNeg) (a3 ((20 * k + ii + x).toNatClampNeg))
theorem nl_at {fcl row : FnI} {ii : Int32} {n : Nat} (hn : n ≤ 10) (h0 : 0 ≤ ii.toInt) (h1 : ii.toInt + (n : Int) ≤ 20) {j : Nat} (hj : j < 10) : forX (nI n) (nlF fcl ii) 0 row j = if j < n then fcl (ii.toNatClampNeg + j) else row j := by
  rw [forX_0 (by omega)]
  have hi := forN_inv (f := fun x => nlF fcl ii (nI x)) (n := n) (st := row) (P := fun k st => ∀ j : Nat, j < 10 → st j = if j < k then fcl (ii.toNatClampNeg + j) else row j) (fun j _ => by rw [if_neg (by omega)]) (fun k st hk hp => ?_) n (Nat.le_refl _)
  · exact hi j hj
  · intro j hj
    show nlF fcl ii (nI k) st j = _
    have e : (ii + nI k).toInt = ii.toInt + (k : Int) := by
      rw [Int32.toInt_add, nI_toInt (by omega), Int.bmod_eq_of_le] <;> omega
    have ei := cl_of h0
    have ek : (ii + nI k).toNatClampNeg = ii.toNatClampNeg + k := by
      have := cl_of (r := ii + nI k) (by omega)
      omega
    have hin : vp_in (ii + nI k) 20 := by rw [vp_in_iff]; omega
    unfold nlF
    rw [set_nI _ _ (by omega) (by decide), get_in hin (by decide), ek]
    by_cases h : j = k
    · subst h; rw [pk_us, if_pos (by omega)]
    · rw [pk_un h, hp j hj]
      by_cases h2 : j < k
      · rw [if_pos h2, if_pos (by omega)]
      · rw [if_neg h2, if_neg (by omega)]
theorem ml_at {a3 f : FnI} {k ii cy : Int32} {n : Nat} (hn : n ≤ 10) (hc : vp_in cy 6) (hk : vp_in k 4) (h0 : 0 ≤ ii.toInt) (h1 : ii.toInt + (n : Int) ≤ 20) (x : Nat) : forX (nI n) (mlF a3 k ii cy) 0 f x = if 10 * cy.toNatClampNeg ≤ x ∧ x < 10 * cy.toNatClampNeg + n then a3 (20 * k.toNatClampNeg + (ii.toNatClampNeg + (x - 10 * cy.toNatClampNeg))) else f x := by
  rw [vp_in_iff] at hc hk
  have ei := cl_of h0
  have ec := cl_of hc.1
  have ek := cl_of hk.1
  rw [forX_0 (by omega)]
  have hi := forN_inv (f := fun x => mlF a3 k ii cy (nI x)) (n := n) (st := f) (P := fun j st => ∀ x : Nat, st x = if 10 * cy.toNatClampNeg ≤ x ∧ x < 10 * cy.toNatClampNeg + j then a3 (20 * k.toNatClampNeg + (ii.toNatClampNeg + (x - 10 * cy.toNatClampNeg))) else f x) (fun x => by rw [if_neg (by omega)]) (fun j st hj hp => ?_) n (Nat.le_refl _)
  · exact hi x
  · intro x
    show mlF a3 k ii cy (nI j) st x = _
    have ej := nI_toInt (n := j) (by omega)
    have e10 : (10 * cy).toInt = 10 * cy.toInt := by
      rw [Int32.toInt_mul, show (10 : Int32).toInt = 10 from by decide, Int.bmod_eq_of_le] <;> omega
    have e1 : (10 * cy + nI j).toInt = 10 * cy.toInt + (j : Int) := by
      rw [Int32.toInt_add, e10, ej, Int.bmod_eq_of_le] <;> omega
    have e20 : (20 * k).toInt = 20 * k.toInt := by
      rw [Int32.toInt_mul, show (20 : Int32).toInt = 20 from by decide, Int.bmod_eq_of_le] <;> omega
    have e2 : (20 * k + ii).toInt = 20 * k.toInt + ii.toInt := by
      rw [Int32.toInt_add, e20, Int.bmod_eq_of_le] <;> omega
    have e3 : (20 * k + ii + nI j).toInt = 20 * k.toInt + ii.toInt + (j : Int) := by
      rw [Int32.toInt_add, e2, ej, Int.bmod_eq_of_le] <;> omega
    have n1 : (10 * cy + nI j).toNatClampNeg = 10 * cy.toNatClampNeg + j := by
      have := cl_of (r := 10 * cy + nI j) (by omega)
      omega
    have n2 : (20 * k + ii + nI j).toNatClampNeg = 20 * k.toNatClampNeg + (ii.toNatClampNeg + j) := by
      have := cl_of (r := 20 * k + ii + nI j) (by omega)
      omega
    unfold mlF
    rw [n1, n2]
    by_cases h : x = 10 * cy.toNatClampNeg + j
    · subst h
      rw [pk_us, if_pos (by omega), show 10 * cy.toNatClampNeg + j - 10 * cy.toNatClampNeg = j by omega]
    · rw [pk_un h, hp x]
      by_cases h2 : 10 * cy.toNatClampNeg ≤ x ∧ x < 10 * cy.toNatClampNeg + j
      · rw [if_pos h2, if_pos (by omega)]
      · rw [if_neg h2, if_neg (by omega)]
