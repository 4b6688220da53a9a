def RI (row : Nat → Int32) : Prop := ∀ j : Nat, vp_in (row j) 6
theorem RI.upd {row : Nat → Int32} (h : RI row) {k : Nat} {v : Int32} (hv : vp_in v 6) : RI (upd row k v) := by
  intro j
  by_cases e : j = k
  · subst e; rw [pk_us]; exact hv
  · rw [pk_un e]; exact h j
theorem pos_of {x : Int32} (h : ¬ x ≤ 0) : 0 < x.toInt := by
  rw [Int32.le_iff_toInt_le, Int32.toInt_zero] at h
  omega
theorem dec_toInt {x : Int32} (h : ¬ x ≤ 0) : (x - 1).toInt = x.toInt - 1 := by
  have h1 := pos_of h
  have h2 := Int32.toInt_lt x
  rw [Int32.toInt_sub, show (1 : Int32).toInt = 1 from by decide, Int.bmod_eq_of_le] <;> omega
theorem dec2_toInt {x : Int32} (h : ¬ x ≤ 0) : (x + -1).toInt = x.toInt - 1 := by
  have h1 := pos_of h
  have h2 := Int32.toInt_lt x
  rw [Int32.toInt_add, show (-1 : Int32).toInt = -1 from by decide, Int.bmod_eq_of_le] <;> omega
theorem at_in {x : Int32} {n : Nat} (h0 : 0 ≤ x.toInt) (h : x.toInt < n) : vp_in x n := vp_in_iff.mpr ⟨h0, h⟩
