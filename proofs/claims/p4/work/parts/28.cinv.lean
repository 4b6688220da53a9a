def TB (ft : Nat → Int32) : Prop := ∀ c : Nat, (ft c).toInt ≤ 200
theorem TB_get {ft : Nat → Int32} (h : TB ft) (n : Nat) (i : Int32) : (r_c_get n ft i).toInt ≤ 200 := by
  unfold r_c_get
  (repeat' split) <;> first | exact h _ | decide
theorem max_200 {x y : Int32} (hx : x.toInt ≤ 200) (hy : y.toInt ≤ 200) : (if x < y then y else x).toInt ≤ 200 := by split <;> assumption
theorem z_200 : (0 : Int32).toInt ≤ 200 := by decide
theorem cinc_mu3 {t b : Int32} (h : ¬ b < t) (hb : b.toInt ≤ 200) : (b.toInt + 1 - (t + 1).toInt).toNat < (b.toInt + 1 - t.toInt).toNat := by
  have h1 := Int32.le_toInt t
  rw [Int32.lt_iff_toInt_lt] at h
  have e : (t + 1).toInt = t.toInt + 1 := by rw [Int32.toInt_add, show (1 : Int32).toInt = 1 from by decide, Int.bmod_eq_of_le] <;> omega
  omega
def CTKR (s n r s' : Int32) : Prop := (r_c_within n 0 200 = 0 ∧ r = -2 ∧ s' = s) ∨ (¬ r_c_within n 0 200 = 0 ∧ ¬ s + n ≤ 100000 ∧ r = -3 ∧ s' = s) ∨ (¬ r_c_within n 0 200 = 0 ∧ s + n ≤ 100000 ∧ r = s + n ∧ s' = s + n)
theorem sw2 {x : Int32} (h0 : ¬ x = 0) (h1 : ¬ x = 1) (h2 : ¬ x = 2) : x.toInt < 0 ∨ (2 : Int) < x.toInt := sw_out (n := 2) (by omega) (fun j hj => by rcases (show j = 0 ∨ j = 1 ∨ j = 2 by omega) with rfl | rfl | rfl <;> assumption)
