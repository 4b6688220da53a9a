theorem ns_eq (k : Int32) : r_c_noSheet k = if k < 0 then 1 else if 4 ≤ k then 1 else 0 := by
  unfold r_c_noSheet
  rw [show r_c_in k.toInt64 0 3 = r_c_within k 0 3 from in_within k 0 3]
  unfold r_c_within
  by_cases h : k < 0
  · rw [if_pos h, if_pos h]; rfl
  · rw [if_neg h, if_neg h]
    have e : (3 < k) ↔ (4 ≤ k) := by
      rw [Int32.lt_iff_toInt_lt, Int32.le_iff_toInt_le, show (3 : Int32).toInt = 3 from by decide, show (4 : Int32).toInt = 4 from by decide]; omega
    by_cases h2 : 4 ≤ k
    · rw [if_pos (e.mpr h2), if_pos h2]; rfl
    · rw [if_neg (fun q => h2 (e.mp q)), if_neg h2]; rfl
theorem w01 {k : Int32} (h0 : ¬ k = 0) (h1 : ¬ k = 1) : r_c_within k 0 1 = 0 := by
  rw [within_eq, if_neg]
  rw [show (0 : Int32).toInt = 0 from by decide, show (1 : Int32).toInt = 1 from by decide]
  intro ⟨a, b⟩
  rcases (show k.toInt = 0 ∨ k.toInt = 1 by omega) with h | h
  · exact h0 (Int32.toInt_inj.mp (by rw [h]; decide))
  · exact h1 (Int32.toInt_inj.mp (by rw [h]; decide))
theorem eq_pump (what v : Int32) : r_x_pump 0 100 what v = r_m_pump what v := by
  unfold r_x_pump r_m_pump
  rw [show r_c_in what.toInt64 0 1 = r_c_within what 0 1 from in_within what 0 1, show r_c_in v.toInt64 what.toInt64 1000 = r_c_within v what 1000 from in_within v what 1000]
  by_cases h0 : what = 0
  · subst h0
    rw [if_pos rfl, if_neg (show ¬ r_c_within 0 0 1 = 0 from by decide)]
    by_cases h : r_c_within v 0 1000 = 0
    · rw [if_pos h, if_pos h]
    · rw [if_neg h, if_neg h]; rfl
  · rw [if_neg h0]
    by_cases h1 : what = 1
    · subst h1
      rw [if_pos rfl, if_neg (show ¬ r_c_within 1 0 1 = 0 from by decide)]
      by_cases h : r_c_within v 1 1000 = 0
      · rw [if_pos h, if_pos h]
      · rw [if_neg h, if_neg h]; rfl
    · rw [if_neg h1, if_pos (w01 h0 h1)]
theorem eq_cylinder (a b d : Int32) : r_x_cylinder a b d = r_m_cylinder a b d := by
  unfold r_x_cylinder r_m_cylinder
  rw [show r_c_in a.toInt64 0 2 = r_c_within a 0 2 from in_within a 0 2, show r_c_in b.toInt64 1 100 = r_c_within b 1 100 from in_within b 1 100, show r_c_in d.toInt64 1 100 = r_c_within d 1 100 from in_within d 1 100]
theorem eq_store (a b d : Int32) : r_x_store a b d = r_m_store a b d := by
  unfold r_x_store r_m_store
  rw [show r_c_in a.toInt64 0 5000 = r_c_within a 0 5000 from in_within a 0 5000, show r_c_in b.toInt64 0 1000 = r_c_within b 0 1000 from in_within b 0 1000, show r_c_in d.toInt64 1 100 = r_c_within d 1 100 from in_within d 1 100]
theorem eq_gauge (a : Int32) : r_x_gauge a = r_m_gauge a := by
  unfold r_x_gauge r_m_gauge
  rw [show r_c_in a.toInt64 0 3 = r_c_within a 0 3 from in_within a 0 3]
theorem eq_sum (a : Int32) : r_x_sum a = r_m_sum a := rfl
theorem eq_told (a : Int32) : r_x_told a = r_m_told a := rfl
theorem eq_leak (k : Int32) : r_x_leak k = r_m_leak k := by
  unfold r_x_leak r_m_leak
  rw [show r_c_in k.toInt64 0 1 = r_c_within k 0 1 from in_within k 0 1]
  by_cases h0 : k = 0
  · subst h0; decide
  · by_cases h1 : k = 1
    · subst h1; decide
    · rw [if_neg h0, if_neg h1, if_pos (w01 h0 h1)]
theorem eq_lose (k : Int32) : r_x_lose k = r_m_lose k := by
  unfold r_x_lose r_m_lose
  rw [ns_eq]
  by_cases h : k < 0
  · rw [if_pos h, if_pos h]; rfl
  · rw [if_neg h, if_neg h]
    by_cases h2 : 4 ≤ k
    · rw [if_pos h2, if_pos h2]; rfl
    · rw [if_neg h2, if_neg h2]; rfl
theorem eq_put (k : Int32) : r_x_put k = r_m_put k := by
  unfold r_x_put r_m_put
  rw [ns_eq]
  by_cases h : k < 0
  · rw [if_pos h, if_pos h]; rfl
  · rw [if_neg h, if_neg h]
    by_cases h2 : 4 ≤ k
    · rw [if_pos h2, if_pos h2]; rfl
    · rw [if_neg h2, if_neg h2]; rfl
theorem eq_copy (k o : Int32) : r_x_copy k o = r_m_copy k o := by
  unfold r_x_copy r_m_copy
  rw [ns_eq, ns_eq]
  by_cases h : k < 0
  · simp [h]
  · by_cases h2 : 4 ≤ k
    · simp [h, h2]
    · by_cases h3 : o < 0
      · simp [h, h2, h3]
      · by_cases h4 : 4 ≤ o
        · simp [h, h2, h3, h4]
        · simp [h, h2, h3, h4]
theorem eq_sheet (k a n : Int32) : r_x_sheet k a n = r_m_sheet k a n := by
  unfold r_x_sheet r_m_sheet
  rw [ns_eq, show r_c_in a.toInt64 0 2 = r_c_within a 0 2 from in_within a 0 2]
  by_cases h : k < 0
  · rw [if_pos h, if_pos h]; rfl
  · rw [if_neg h, if_neg h]
    by_cases h2 : 4 ≤ k
    · rw [if_pos h2, if_pos h2]; rfl
    · rw [if_neg h2, if_neg h2]; rfl
theorem eq_tick (n : Int32) : r_x_tick n = r_m_tick n := by
  unfold r_x_tick r_m_tick
  rw [show r_c_in n.toInt64 0 200 = r_c_within n 0 200 from in_within n 0 200]
  by_cases h : r_c_within n 0 200 = 0
  · rw [if_pos h, if_pos h]
  · rw [if_neg h, if_neg h]
    by_cases h2 : (0 + n) ≤ 100000
    · rw [if_pos h2, if_pos h2]
      by_cases h3 : n ≤ 0
      · rw [if_pos h3]
      · rw [if_neg h3]
    · rw [if_neg h2, if_neg h2]
theorem lg_self {x y : Int64} (h : x = y) : lg_cmp x y = 0 := by
  subst h
  unfold lg_cmp
  rw [if_neg Int64.lt_irrefl, if_pos rfl]
