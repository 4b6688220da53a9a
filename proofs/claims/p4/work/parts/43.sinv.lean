def shF (s0 s1 s2 s3 : Nat) : Nat → Option Nat := fun k => if k = 0 then some s0 else if k = 1 then some s1 else if k = 2 then some s2 else if k = 3 then some s3 else none
def SA (fsh : Nat → Option Nat) (k : Int32) (r : Option Nat) : Prop := ((k < 0 ∨ 4 ≤ k) ∧ r = none) ∨ (¬ k < 0 ∧ ¬ 4 ≤ k ∧ r = fsh k.toNatClampNeg)
theorem sh_cases {fsh : Nat → Option Nat} {s0 s1 s2 s3 : Nat} {k : Int32} {r : Option Nat} (hf : fsh = shF s0 s1 s2 s3) (h : SA fsh k r) : (r = none ∧ (k < 0 ∨ 4 ≤ k)) ∨ (r = some s0 ∧ k = 0) ∨ (r = some s1 ∧ k = 1) ∨ (r = some s2 ∧ k = 2) ∨ (r = some s3 ∧ k = 3) := by
  rcases h with ⟨h1, h2⟩ | ⟨h1, h2, h3⟩
  · exact Or.inl ⟨h2, h1⟩
  · have e4 : (4 : Int32).toInt = 4 := by decide
    rw [Int32.lt_iff_toInt_lt, Int32.toInt_zero] at h1
    rw [Int32.le_iff_toInt_le, e4] at h2
    have e : k = nI k.toInt.toNat := Int32.toInt_inj.mp (by rw [nI_toInt (by omega)]; omega)
    have hj : k.toInt.toNat < 4 := by omega
    have hc : k.toNatClampNeg = k.toInt.toNat := rfl
    rw [hf, hc] at h3
    generalize k.toInt.toNat = j at e hj h3
    refine Or.inr ?_
    rcases (show j = 0 ∨ j = 1 ∨ j = 2 ∨ j = 3 by omega) with rfl | rfl | rfl | rfl
    · exact Or.inl ⟨h3, e⟩
    · exact Or.inr (Or.inl ⟨h3, e⟩)
    · exact Or.inr (Or.inr (Or.inl ⟨h3, e⟩))
    · exact Or.inr (Or.inr (Or.inr ⟨h3, e⟩))
theorem cut_20 {n : Int32} (h0 : 0 ≤ n) (h : n ≤ 20) : 0 ≤ (if 20 < n then 20 else n).toInt ∧ (if 20 < n then 20 else n).toInt ≤ 20 := by
  rw [Int32.le_iff_toInt_le] at h h0
  have e : (20 : Int32).toInt = 20 := by decide
  rw [e] at h
  rw [Int32.toInt_zero] at h0
  rw [if_neg (by rw [Int32.lt_iff_toInt_lt, e]; omega)]
  omega
theorem c_in20 {x : Int32} (h0 : 0 ≤ x.toInt) (h : ¬ (20 : Int32) ≤ x) : vp_in x 20 := by
  rw [Int32.le_iff_toInt_le, show (20 : Int32).toInt = 20 from by decide] at h
  rw [vp_in_iff]
  omega
theorem c_inc20 {x : Int32} (h0 : 0 ≤ x.toInt) (h : ¬ (20 : Int32) ≤ x) : 0 ≤ (x + 1).toInt := by
  have := inc_toInt h
  omega
theorem z_ge0 : (0 : Int) ≤ (0 : Int32).toInt := by decide
