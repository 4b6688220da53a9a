-- the compared answers
theorem cmp_store {r1 r2 sol s2 x1 x2 x3 : Int32} (h1 : r1 = sx_r sol x1 x2 x3) (h2 : r2 = sx_r s2 x1 x2 x3) (k : sol = s2) : r1 = r2 := by rw [h1, h2, k]
