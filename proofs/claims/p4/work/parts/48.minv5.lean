theorem FB_fl {fl lk : Nat → Int32} (h : FB fl lk) {k : Nat} {v : Int32} (hv : 0 ≤ v.toInt ∧ v.toInt ≤ 1000) : FB (upd fl k v) lk := by
  intro c
  by_cases e : c = k
  · subst e; rw [pk_us]; exact ⟨hv, (h c).2⟩
  · rw [pk_un e]; exact h c
theorem FB_lk {fl lk : Nat → Int32} (h : FB fl lk) {k : Nat} {v : Int32} (hv : 0 ≤ v.toInt) : FB fl (upd lk k v) := by
  intro c
  by_cases e : c = k
  · subst e; rw [pk_us]; exact ⟨(h c).1, hv⟩
  · rw [pk_un e]; exact h c
theorem MCI_new {i a9 a10 a12 : Nat → Int32} {a s : Int32} (h7 : 0 ≤ (i 7).toInt ∧ (i 7).toInt ≤ 6) (h : MCI i a9 a10 a12) (ha : 1 ≤ a.toInt ∧ a.toInt ≤ 100) (hs : 1 ≤ s.toInt ∧ s.toInt ≤ 100) (hf : ¬ i 7 = 6) : (0 ≤ (i 7 + 1).toInt ∧ (i 7 + 1).toInt ≤ 6) ∧ MCI (upd i 7 (i 7 + 1)) (upd a9 (i 7).toNatClampNeg a) (upd a10 (i 7).toNatClampNeg s) (upd a12 (i 7).toNatClampNeg 1) := by
  have h6 : ¬ (i 7).toInt = 6 := fun e => hf (Int32.toInt_inj.mp (by rw [e]; decide))
  have e1 : (i 7 + 1).toInt = (i 7).toInt + 1 := inc7 h7.1 h7.2 (by omega)
  refine ⟨by omega, ?_⟩
  intro c hc
  have hc : (c : Int) < (i 7 + 1).toInt := hc
  rw [e1] at hc
  have ek := cl_of h7.1
  by_cases e : c = (i 7).toNatClampNeg
  · subst e
    rw [pk_us, pk_us, pk_us]
    exact ⟨ha, hs, by decide, by decide⟩
  · rw [pk_un e, pk_un e, pk_un e]
    exact h c (by omega)
theorem in_l {v : Int32} {lo hi : Int64} (h : ¬ r_c_in v.toInt64 lo hi = 0) : lo.toInt ≤ v.toInt ∧ v.toInt ≤ hi.toInt := by
  rw [in_eq, Int32.toInt_toInt64] at h
  by_cases h2 : lo.toInt ≤ v.toInt ∧ v.toInt ≤ hi.toInt
  · exact h2
  · rw [if_neg h2] at h; exact absurd rfl h
theorem full_inc {x y : Int32} {n : Nat} (hy : y.toInt = n) (hx : 0 ≤ x.toInt ∧ x.toInt ≤ n) (h : ¬ x = y) (hn : n ≤ 1000) : 0 ≤ (x + 1).toInt ∧ (x + 1).toInt ≤ n := by
  have h6 : ¬ x.toInt = n := fun e => h (Int32.toInt_inj.mp (by rw [e, hy]))
  have e1 : (x + 1).toInt = x.toInt + 1 := inc7 hx.1 hx.2 (by omega)
  omega
theorem room_30 {i a9 a10 a12 : Nat → Int32} {cy v : Int32} (hM : MCI i a9 a10 a12) (hc : vp_in cy 6) (hlt : cy.toInt < (i 7).toInt) (h : ¬ r_c_in v.toInt64 0 (a9 cy.toNatClampNeg * a10 cy.toNatClampNeg).toInt64 = 0) : 0 ≤ v.toInt ∧ v.toInt ≤ 30000 := by
  have h1 := hM cy.toNatClampNeg (by rw [cl_nat hc]; exact hlt)
  have h2 := mul_toInt h1.1 h1.2.1
  have h3 := in_l h
  rw [Int32.toInt_toInt64, h2.1, show (0 : Int64).toInt = 0 from by decide] at h3
  omega
theorem fl_in {v : Int32} {lo hi : Int64} (h : ¬ r_c_in v.toInt64 lo hi = 0) (h0 : 0 ≤ lo.toInt) (h2 : hi.toInt ≤ 1000) : 0 ≤ v.toInt ∧ v.toInt ≤ 1000 := by
  have h1 := in_l h
  omega
theorem st_ne {v : Int32} (h : ¬ r_c_in v.toInt64 1 100 = 0) : ¬ v = 0 := by
  intro e
  have h1 := in_l h
  rw [e, show (1 : Int64).toInt = 1 from by decide, Int32.toInt_zero] at h1
  omega
